/-! THE REFERENCE, 3 -/
def sp_bad (M x2 x3 x4 : Int32) : Int32 := if (¬ x2 < nI 1 ∧ ¬ nI 3 < x2 ∧ sp_has M x4 = 0) ∨ ((x2 = nI 7 ∨ x2 = nI 8) ∧ sp_has M x3 = 0) then nI 1 else nI 0
def sp_actE (S : Nat → Nat → Int32) (x0 x1 x2 x3 x4 x5 : Int32) : Int32 :=
  if sp_has (S 0 0) x0 = 0 then -2 else if ¬ sp_bad (S 0 0) x2 x3 x4 = 0 then -2 else if x1 < 0 then -3 else if nI 3 < x1 then -3 else if x2 < 0 then -3 else if nI 12 < x2 then -3 else if sp_areIn x2.toNatClampNeg x3 x4 x5 = 0 then -3
  else if x2.toNatClampNeg = 8 ∧ ¬ S 1 x3.toNatClampNeg = 0 then -4 else if ¬ S 12 x0.toNatClampNeg = 0 then -4 else if (S 10 (4 * x0.toNatClampNeg + x1.toNatClampNeg)).toNatClampNeg = 10 then -5 else 0
def sp_acts (S : Nat → Nat → Int32) (x0 x1 : Int32) : Nat := (S 10 (4 * x0.toNatClampNeg + x1.toNatClampNeg)).toNatClampNeg
def sp_act2 (S : Nat → Nat → Int32) (mm k : Nat) (x2 x3 x4 x5 : Int32) : Nat → Nat → Int32 := m2 (m2 (m2 (m2 (m2 S 11 (40 * mm + 4 * k) x2) 11 (40 * mm + 4 * k + 1) x3) 11 (40 * mm + 4 * k + 2) x4) 11 (40 * mm + 4 * k + 3) x5) 10 mm (nI (k + 1))
def sp_actR (S : Nat → Nat → Int32) (x0 x1 x2 x3 x4 x5 : Int32) : Int32 := if sp_actE S x0 x1 x2 x3 x4 x5 = 0 then nI (sp_acts S x0 x1 + 1) else sp_actE S x0 x1 x2 x3 x4 x5
def sp_actS (S : Nat → Nat → Int32) (x0 x1 x2 x3 x4 x5 : Int32) : Nat → Nat → Int32 := if sp_actE S x0 x1 x2 x3 x4 x5 = 0 then sp_act2 S (4 * x0.toNatClampNeg + x1.toNatClampNeg) (sp_acts S x0 x1) x2 x3 x4 x5 else S
theorem bad_7 {M x3 x4 : Int32} {so : Nat} (h : sp_bad M (nI so) x3 x4 = 0) (hs : so = 7 ∨ so = 8) : ¬ sp_has M x3 = 0 := by
  intro q
  unfold sp_bad at h
  rw [if_pos (Or.inr ⟨by rcases hs with rfl | rfl <;> simp, q⟩)] at h
  exact absurd h (by decide)
theorem bad_1 {M x3 x4 : Int32} {so : Nat} (h : sp_bad M (nI so) x3 x4 = 0) (h1 : 1 ≤ so) (h3 : so ≤ 3) : ¬ sp_has M x4 = 0 := by
  intro q
  unfold sp_bad at h
  rw [if_pos (Or.inl ⟨nI_nlt h1 (by omega), nI_nlt h3 (by omega), q⟩)] at h
  exact absurd h (by decide)
theorem rowN_t {v : Int32} (h0 : ¬ v < 0) (h : ¬ nI 20 < v) : v = nI (sp_rowN v) ∧ sp_rowN v ≤ 20 := by
  obtain ⟨j, hj, rfl⟩ := ix_le (by decide) h0 h
  rw [sp_rowN, if_neg h, nI_clamp (by omega)]
  exact ⟨rfl, hj⟩
theorem rowN_f {v : Int32} (h : nI 20 < v) : sp_rowN v = 20 := by rw [sp_rowN, if_pos h]
theorem rowN_le {v : Int32} (h0 : ¬ v < 0) : sp_rowN v ≤ 20 := by
  by_cases h : nI 20 < v
  · rw [rowN_f h]; exact Nat.le_refl _
  · exact (rowN_t h0 h).2
def sp_ioI (S : Nat → Nat → Int32) (x k : Nat) : Int32 := sp_get S x k
def sp_inR (S : Nat → Nat → Int32) (x fa : Nat) : Int32 := if S 8 x = 0 then nI 4 else if sp_get S x fa < 0 then nI 5 else if S 8 x - nI 1 ≤ sp_get S x fa then nI 5 else -1
def sp_inS (S : Nat → Nat → Int32) (x fa fb : Nat) : Nat → Nat → Int32 := if S 8 x = 0 then sp_ar S (nI 4) else if sp_get S x fa < 0 then sp_ar S (nI 5) else if S 8 x - nI 1 ≤ sp_get S x fa then sp_ar S (nI 5) else m2 S 9 (20 * x + (sp_get S x fa).toNatClampNeg) (sp_get S x fb)
def sp_outS (S : Nat → Nat → Int32) (x fa fb : Nat) : Nat → Nat → Int32 := if S 8 x = 0 then sp_ar S (nI 4) else if sp_get S x fb < 0 then sp_ar S (nI 5) else if S 8 x - nI 1 ≤ sp_get S x fb then sp_ar S (nI 5) else sp_set S x fa (S 9 (20 * x + (sp_get S x fb).toNatClampNeg))
def sp_half (S : Nat → Nat → Int32) (x z g : Nat) : Nat → Nat → Int32 := m2 S 16 0 (S 16 0 + (if S 7 (4 * z + g) = 0 then (if z = x then nI 0 else if S 12 z = nI 1 then nI 1 else nI 0) else nI 0))
def sp_addS (S : Nat → Nat → Int32) (x fa z g : Nat) : Nat → Nat → Int32 := sp_set (sp_half S x z g) x fa (sp_get (sp_half S x z g) x fa + sp_get (sp_half S x z g) z g)
def sp_putS (S : Nat → Nat → Int32) (x fa z g : Nat) : Nat → Nat → Int32 := sp_set S z g (sp_get S x fa)
def sp_divS (S : Nat → Nat → Int32) (x fa z g : Nat) : Nat → Nat → Int32 := if sp_get (sp_half S x z g) z g = 0 then sp_ar (sp_half S x z g) (nI 3) else sp_set (sp_half S x z g) x fa (sp_get (sp_half S x z g) x fa / sp_get (sp_half S x z g) z g)
def sp_divR (S : Nat → Nat → Int32) (x z g : Nat) : Int32 := if sp_get (sp_half S x z g) z g = 0 then nI 3 else -1
set_option maxHeartbeats 4000000 in
set_option maxRecDepth 100000 in
/-- act(x, method, sort, a, b, c) -/
theorem c_X7_act (l : Launch) (G : gw_G) (A : Nat → Prop) (adr : Nat → Nat) (S X : Nat → Nat → Int32) (n : Nat) (x0 x1 x2 x3 x4 x5 : Int32) (hn0 : S 0 0 = nI n) (hn : n ≤ 12) (hac : ∀ j, j < 48 → ∃ k, k ≤ 10 ∧ S 10 j = nI k) : gm l yX7_act cX7_act 10 (some .int) (rmL 2) 0 0 A [.ref (adr 0), .int x0, .int x1, .int x2, .int x3, .int x4, .int x5] (gW G A adr (rcel G adr S X)) (gW G A adr (rcel G adr (sp_actS S x0 x1 x2 x3 x4 x5) X)) (some (.int (sp_actR S x0 x1 x2 x3 x4 x5))) := by
  refine gm_of (own := RX7) (by decide) rfl (Nat.le_of_ble_eq_true rfl) ?_
  intro p e s m below meth c ls F hml hr hlk hnm hK hR hl
  have hx := F.1
  have hb := F.2.1
  have hl : lv_has ls 10 [(0, .ref (adr 0)), (1, .int x0), (2, .int x1), (3, .int x2), (4, .int x3), (5, .int x4), (6, .int x5)] := hl
  refine lp_cut (pc2 := 47) (st2 := []) (fun H locs ls => rB G A adr S X s.heap H locs ∧ lv_has ls 10 [(7, .int (sp_bad (S 0 0) x2 x3 x4)), (0, .ref (adr 0)), (1, .int x0), (2, .int x1), (3, .int x2), (4, .int x3), (5, .int x4), (6, .int x5)]) (fun H locs ls hRl => ?_) (fun K => ?_)
  · obtain ⟨hR, hl⟩ := hRl
    refine lv_aload_n hx hb dX7_act_47 rfl (lv_at hl 1 rfl) ?_
    refine lv_iload_n hx hb dX7_act_48 rfl (lv_at hl 2 rfl) ?_
    refine gcVi (As := [.int x0]) F hK hR hml cv_X7_87 (o := 0) rfl rfl rfl (c_X7_has l G A adr S X x0) ⟨rfl, rfl⟩ ⟨Nat.le_of_ble_eq_true rfl, Nat.le_of_ble_eq_true rfl⟩ rfl rfl hl.1 (Nat.le_of_ble_eq_true rfl) dX7_act_49 ⟨Nat.zero_le _, Nat.zero_le _⟩ (fun H locs hR => ?_)
    refine lv_if_eq (tgt := 60) hx hb dX7_act_52 (by decide) (fun c_52 => ?_) (fun c_52 => ?_)
    · have hE : sp_actE S x0 x1 x2 x3 x4 x5 = -2 := by unfold sp_actE; repeat (first | rw [if_pos c_52] | rw [if_neg c_52] | rw [if_neg (not_not_intro c_52)])
      refine lv_bipush (v := (-2)) hx hb dX7_act_60 (by decide) ?_
      exact gr_i F hr hlk hK hR dX7_act_62 (by rw [sp_actR, if_neg (by rw [hE]; decide), hE]) (by rw [sp_actS, if_neg (by rw [hE]; decide)])
    · obtain ⟨x, h_x, rfl⟩ := has_yes hn0 hn c_52
      refine lv_iload hx hb dX7_act_55 (lv_at hl 0 rfl) ?_
      refine lv_if_eq (tgt := 63) hx hb dX7_act_57 (by decide) (fun c_57 => ?_) (fun c_57 => ?_)
      · refine lv_iload_n hx hb dX7_act_63 rfl (lv_at hl 3 rfl) ?_
        refine lv_if_lt (tgt := 95) hx hb dX7_act_64 (by decide) (fun c_64 => ?_) (fun c_64 => ?_)
        · have n_64 := Int32.not_le.mpr c_64
          have hE : sp_actE S (nI x) x1 x2 x3 x4 x5 = -3 := by unfold sp_actE; rw [nI_clamp (n := x) (by omega)]; repeat (first | rw [if_pos c_52] | rw [if_neg c_52] | rw [if_neg (not_not_intro c_52)] | rw [if_pos c_57] | rw [if_neg c_57] | rw [if_neg (not_not_intro c_57)] | rw [if_pos c_64] | rw [if_neg c_64] | rw [if_neg (not_not_intro c_64)] | rw [if_pos n_64] | rw [if_neg n_64] | rw [if_neg (not_not_intro n_64)])
          refine lv_bipush (v := (-3)) hx hb dX7_act_95 (by decide) ?_
          exact gr_i F hr hlk hK hR dX7_act_97 (by rw [sp_actR, if_neg (by rw [hE]; decide), hE]) (by rw [sp_actS, if_neg (by rw [hE]; decide)])
        · have n_64 := Int32.not_lt.mp c_64
          refine lv_iload_n hx hb dX7_act_67 rfl (lv_at hl 3 rfl) ?_
          refine lv_iconst (v := nI 3) hx hb dX7_act_68 (by decide) ?_
          refine lv_icmp_gt (tgt := 95) hx hb dX7_act_69 (by decide) (fun c_69 => ?_) (fun c_69 => ?_)
          · have n_69 := Int32.not_le.mpr c_69
            have hE : sp_actE S (nI x) x1 x2 x3 x4 x5 = -3 := by unfold sp_actE; rw [nI_clamp (n := x) (by omega)]; repeat (first | rw [if_pos c_52] | rw [if_neg c_52] | rw [if_neg (not_not_intro c_52)] | rw [if_pos c_57] | rw [if_neg c_57] | rw [if_neg (not_not_intro c_57)] | rw [if_pos c_64] | rw [if_neg c_64] | rw [if_neg (not_not_intro c_64)] | rw [if_pos n_64] | rw [if_neg n_64] | rw [if_neg (not_not_intro n_64)] | rw [if_pos c_69] | rw [if_neg c_69] | rw [if_neg (not_not_intro c_69)] | rw [if_pos n_69] | rw [if_neg n_69] | rw [if_neg (not_not_intro n_69)])
            refine lv_bipush (v := (-3)) hx hb dX7_act_95 (by decide) ?_
            exact gr_i F hr hlk hK hR dX7_act_97 (by rw [sp_actR, if_neg (by rw [hE]; decide), hE]) (by rw [sp_actS, if_neg (by rw [hE]; decide)])
          · have n_69 := Int32.not_lt.mp c_69
            obtain ⟨me, hme, rfl⟩ := ix_le (by decide) c_64 c_69
            refine lv_iload_n hx hb dX7_act_72 rfl (lv_at hl 4 rfl) ?_
            refine lv_if_lt (tgt := 95) hx hb dX7_act_73 (by decide) (fun c_73 => ?_) (fun c_73 => ?_)
            · have n_73 := Int32.not_le.mpr c_73
              have hE : sp_actE S (nI x) (nI me) x2 x3 x4 x5 = -3 := by unfold sp_actE; rw [nI_clamp (n := x) (by omega), nI_clamp (n := me) (by omega)]; repeat (first | rw [if_pos c_52] | rw [if_neg c_52] | rw [if_neg (not_not_intro c_52)] | rw [if_pos c_57] | rw [if_neg c_57] | rw [if_neg (not_not_intro c_57)] | rw [if_pos c_64] | rw [if_neg c_64] | rw [if_neg (not_not_intro c_64)] | rw [if_pos n_64] | rw [if_neg n_64] | rw [if_neg (not_not_intro n_64)] | rw [if_pos c_69] | rw [if_neg c_69] | rw [if_neg (not_not_intro c_69)] | rw [if_pos n_69] | rw [if_neg n_69] | rw [if_neg (not_not_intro n_69)] | rw [if_pos c_73] | rw [if_neg c_73] | rw [if_neg (not_not_intro c_73)] | rw [if_pos n_73] | rw [if_neg n_73] | rw [if_neg (not_not_intro n_73)])
              refine lv_bipush (v := (-3)) hx hb dX7_act_95 (by decide) ?_
              exact gr_i F hr hlk hK hR dX7_act_97 (by rw [sp_actR, if_neg (by rw [hE]; decide), hE]) (by rw [sp_actS, if_neg (by rw [hE]; decide)])
            · have n_73 := Int32.not_lt.mp c_73
              refine lv_iload_n hx hb dX7_act_76 rfl (lv_at hl 4 rfl) ?_
              refine lv_bipush (v := nI 12) hx hb dX7_act_77 (by decide) ?_
              refine lv_icmp_gt (tgt := 95) hx hb dX7_act_79 (by decide) (fun c_79 => ?_) (fun c_79 => ?_)
              · have n_79 := Int32.not_le.mpr c_79
                have hE : sp_actE S (nI x) (nI me) x2 x3 x4 x5 = -3 := by unfold sp_actE; rw [nI_clamp (n := x) (by omega), nI_clamp (n := me) (by omega)]; repeat (first | rw [if_pos c_52] | rw [if_neg c_52] | rw [if_neg (not_not_intro c_52)] | rw [if_pos c_57] | rw [if_neg c_57] | rw [if_neg (not_not_intro c_57)] | rw [if_pos c_64] | rw [if_neg c_64] | rw [if_neg (not_not_intro c_64)] | rw [if_pos n_64] | rw [if_neg n_64] | rw [if_neg (not_not_intro n_64)] | rw [if_pos c_69] | rw [if_neg c_69] | rw [if_neg (not_not_intro c_69)] | rw [if_pos n_69] | rw [if_neg n_69] | rw [if_neg (not_not_intro n_69)] | rw [if_pos c_73] | rw [if_neg c_73] | rw [if_neg (not_not_intro c_73)] | rw [if_pos n_73] | rw [if_neg n_73] | rw [if_neg (not_not_intro n_73)] | rw [if_pos c_79] | rw [if_neg c_79] | rw [if_neg (not_not_intro c_79)] | rw [if_pos n_79] | rw [if_neg n_79] | rw [if_neg (not_not_intro n_79)])
                refine lv_bipush (v := (-3)) hx hb dX7_act_95 (by decide) ?_
                exact gr_i F hr hlk hK hR dX7_act_97 (by rw [sp_actR, if_neg (by rw [hE]; decide), hE]) (by rw [sp_actS, if_neg (by rw [hE]; decide)])
              · have n_79 := Int32.not_lt.mp c_79
                obtain ⟨so, hso, rfl⟩ := ix_le (by decide) c_73 c_79
                refine lv_iload_n hx hb dX7_act_82 rfl (lv_at hl 4 rfl) ?_
                refine lv_iload hx hb dX7_act_83 (lv_at hl 5 rfl) ?_
                refine lv_iload hx hb dX7_act_85 (lv_at hl 6 rfl) ?_
                refine lv_iload hx hb dX7_act_87 (lv_at hl 7 rfl) ?_
                refine gcS (As := [.int (nI so), .int x3, .int x4, .int x5]) F hml cs_X7_98 (c_X7_areIn l so x3 x4 x5 (by omega)) ⟨rfl, rfl⟩ ⟨Nat.le_of_ble_eq_true rfl, Nat.le_of_ble_eq_true rfl⟩ rfl rfl hl.1 (Nat.le_of_ble_eq_true rfl) dX7_act_89 ⟨Nat.zero_le _, Nat.zero_le _⟩ ?_
                refine lv_if_ne (tgt := 98) hx hb dX7_act_92 (by decide) (fun c_92 => ?_) (fun c_92 => ?_)
                · obtain ⟨k, hk1, hk2⟩ := hac (4 * x + me) (by omega)
                  refine lv_iload_n hx hb dX7_act_98 rfl (lv_at hl 4 rfl) ?_
                  refine lv_bipush (v := nI 8) hx hb dX7_act_99 (by decide) ?_
                  refine nv_icmp_ne (by omega) (by omega) hx hb dX7_act_101 (tgt := 114) (by decide) (fun c_101 => ?_) (fun c_101 => ?_)
                  · have n8 : ¬ (so = 8 ∧ ¬ S 1 x3.toNatClampNeg = 0) := fun q => c_101 q.1
                    refine lv_aload_n hx hb dX7_act_114 rfl (lv_at hl 1 rfl) ?_
                    refine rg_12 F hK hR dX7_act_115 ?_
                    refine lv_iload_n hx hb dX7_act_118 rfl (lv_at hl 2 rfl) ?_
                    refine ri_12 F hK hR (by omega) dX7_act_119 ?_
                    refine lv_if_eq (tgt := 126) hx hb dX7_act_120 (by decide) (fun c_120 => ?_) (fun c_120 => ?_)
                    · refine lv_iconst (v := nI 4) hx hb dX7_act_126 (by decide) ?_
                      refine lv_iload_n hx hb dX7_act_127 rfl (lv_at hl 2 rfl) ?_
                      refine nv_imul hx hb dX7_act_128 ?_
                      refine lv_iload_n hx hb dX7_act_129 rfl (lv_at hl 3 rfl) ?_
                      refine nv_iadd hx hb dX7_act_130 ?_
                      refine lv_istore (lv' := [(8, .int (nI (4 * x + me))), (7, .int (sp_bad (S 0 0) (nI so) x3 x4)), (0, .ref (adr 0)), (1, .int (nI x)), (2, .int (nI me)), (3, .int (nI so)), (4, .int x3), (5, .int x4), (6, .int x5)]) hx hb dX7_act_131 hl (by decide) rfl (fun ls hl => ?_)
                      refine lv_aload_n hx hb dX7_act_133 rfl (lv_at hl 2 rfl) ?_
                      refine rg_10 F hK hR dX7_act_134 ?_
                      refine lv_iload hx hb dX7_act_137 (lv_at hl 0 rfl) ?_
                      refine ri_10 F hK hR (by omega) dX7_act_139 ?_
                      refine lv_eq (hk2) ?_
                      refine lv_bipush (v := nI 10) hx hb dX7_act_140 (by decide) ?_
                      refine nv_icmp_ne (by omega) (by omega) hx hb dX7_act_142 (tgt := 148) (by decide) (fun c_142 => ?_) (fun c_142 => ?_)
                      · have hk3 : ¬ (S 10 (4 * x + me)).toNatClampNeg = 10 := by rw [hk2, nI_clamp (by omega)]; exact c_142
                        have hE : sp_actE S (nI x) (nI me) (nI so) x3 x4 x5 = 0 := by unfold sp_actE; rw [nI_clamp (n := x) (by omega), nI_clamp (n := me) (by omega), nI_clamp (n := so) (by omega)]; repeat (first | rw [if_pos c_52] | rw [if_neg c_52] | rw [if_neg (not_not_intro c_52)] | rw [if_pos c_57] | rw [if_neg c_57] | rw [if_neg (not_not_intro c_57)] | rw [if_pos c_64] | rw [if_neg c_64] | rw [if_neg (not_not_intro c_64)] | rw [if_pos n_64] | rw [if_neg n_64] | rw [if_neg (not_not_intro n_64)] | rw [if_pos c_69] | rw [if_neg c_69] | rw [if_neg (not_not_intro c_69)] | rw [if_pos n_69] | rw [if_neg n_69] | rw [if_neg (not_not_intro n_69)] | rw [if_pos c_73] | rw [if_neg c_73] | rw [if_neg (not_not_intro c_73)] | rw [if_pos n_73] | rw [if_neg n_73] | rw [if_neg (not_not_intro n_73)] | rw [if_pos c_79] | rw [if_neg c_79] | rw [if_neg (not_not_intro c_79)] | rw [if_pos n_79] | rw [if_neg n_79] | rw [if_neg (not_not_intro n_79)] | rw [if_pos c_92] | rw [if_neg c_92] | rw [if_neg (not_not_intro c_92)] | rw [if_pos c_101] | rw [if_neg c_101] | rw [if_neg (not_not_intro c_101)] | rw [if_pos n8] | rw [if_neg n8] | rw [if_neg (not_not_intro n8)] | rw [if_pos c_120] | rw [if_neg c_120] | rw [if_neg (not_not_intro c_120)] | rw [if_pos c_142] | rw [if_neg c_142] | rw [if_neg (not_not_intro c_142)] | rw [if_pos hk3] | rw [if_neg hk3] | rw [if_neg (not_not_intro hk3)])
                        have hk : sp_acts S (nI x) (nI me) = k := by rw [sp_acts, nI_clamp (n := x) (by omega), nI_clamp (n := me) (by omega), hk2, nI_clamp (by omega)]
                        refine lv_bipush (v := nI 40) hx hb dX7_act_148 (by decide) ?_
                        refine lv_iload hx hb dX7_act_150 (lv_at hl 0 rfl) ?_
                        refine nv_imul hx hb dX7_act_152 ?_
                        refine lv_iconst (v := nI 4) hx hb dX7_act_153 (by decide) ?_
                        refine lv_aload_n hx hb dX7_act_154 rfl (lv_at hl 2 rfl) ?_
                        refine rg_10 F hK hR dX7_act_155 ?_
                        refine lv_iload hx hb dX7_act_158 (lv_at hl 0 rfl) ?_
                        refine ri_10 F hK hR (by omega) dX7_act_160 ?_
                        refine lv_eq (hk2) ?_
                        refine nv_imul hx hb dX7_act_161 ?_
                        refine nv_iadd hx hb dX7_act_162 ?_
                        refine lv_istore (lv' := [(9, .int (nI (40 * (4 * x + me) + 4 * k))), (8, .int (nI (4 * x + me))), (7, .int (sp_bad (S 0 0) (nI so) x3 x4)), (0, .ref (adr 0)), (1, .int (nI x)), (2, .int (nI me)), (3, .int (nI so)), (4, .int x3), (5, .int x4), (6, .int x5)]) hx hb dX7_act_163 hl (by decide) rfl (fun ls hl => ?_)
                        refine lv_aload_n hx hb dX7_act_165 rfl (lv_at hl 3 rfl) ?_
                        refine rg_11 F hK hR dX7_act_166 ?_
                        refine lv_iload hx hb dX7_act_169 (lv_at hl 0 rfl) ?_
                        refine lv_iload_n hx hb dX7_act_171 rfl (lv_at hl 6 rfl) ?_
                        refine rs_11 F hK hR (by omega) dX7_act_172 (fun H locs hR => ?_)
                        refine lv_aload_n hx hb dX7_act_173 rfl (lv_at hl 3 rfl) ?_
                        refine rg_11 F hK hR dX7_act_174 ?_
                        refine lv_iload hx hb dX7_act_177 (lv_at hl 0 rfl) ?_
                        refine lv_iconst (v := nI 1) hx hb dX7_act_179 (by decide) ?_
                        refine nv_iadd hx hb dX7_act_180 ?_
                        refine lv_iload hx hb dX7_act_181 (lv_at hl 7 rfl) ?_
                        refine rs_11 F hK hR (by omega) dX7_act_183 (fun H locs hR => ?_)
                        refine lv_aload_n hx hb dX7_act_184 rfl (lv_at hl 3 rfl) ?_
                        refine rg_11 F hK hR dX7_act_185 ?_
                        refine lv_iload hx hb dX7_act_188 (lv_at hl 0 rfl) ?_
                        refine lv_iconst (v := nI 2) hx hb dX7_act_190 (by decide) ?_
                        refine nv_iadd hx hb dX7_act_191 ?_
                        refine lv_iload hx hb dX7_act_192 (lv_at hl 8 rfl) ?_
                        refine rs_11 F hK hR (by omega) dX7_act_194 (fun H locs hR => ?_)
                        refine lv_aload_n hx hb dX7_act_195 rfl (lv_at hl 3 rfl) ?_
                        refine rg_11 F hK hR dX7_act_196 ?_
                        refine lv_iload hx hb dX7_act_199 (lv_at hl 0 rfl) ?_
                        refine lv_iconst (v := nI 3) hx hb dX7_act_201 (by decide) ?_
                        refine nv_iadd hx hb dX7_act_202 ?_
                        refine lv_iload hx hb dX7_act_203 (lv_at hl 9 rfl) ?_
                        refine rs_11 F hK hR (by omega) dX7_act_205 (fun H locs hR => ?_)
                        refine lv_aload_n hx hb dX7_act_206 rfl (lv_at hl 3 rfl) ?_
                        refine rg_10 F hK hR dX7_act_207 ?_
                        refine lv_iload hx hb dX7_act_210 (lv_at hl 1 rfl) ?_
                        refine lv_dup2_11 hx hb dX7_act_212 rfl rfl ?_
                        refine ri_10 F hK hR (by omega) dX7_act_213 ?_
                        refine lv_eq (((((m2_nk (by decide)).trans (m2_nk (by decide))).trans (m2_nk (by decide))).trans (m2_nk (by decide))).trans (hk2)) ?_
                        refine lv_iconst (v := nI 1) hx hb dX7_act_214 (by decide) ?_
                        refine nv_iadd hx hb dX7_act_215 ?_
                        refine rs_10 F hK hR (by omega) dX7_act_216 (fun H locs hR => ?_)
                        refine lv_aload_n hx hb dX7_act_217 rfl (lv_at hl 3 rfl) ?_
                        refine rg_10 F hK hR dX7_act_218 ?_
                        refine lv_iload hx hb dX7_act_221 (lv_at hl 1 rfl) ?_
                        refine ri_10 F hK hR (by omega) dX7_act_223 ?_
                        refine lv_eq (m2_at) ?_
                        exact gr_i F hr hlk hK hR dX7_act_224 (by rw [sp_actR, if_pos hE, hk]) (by rw [sp_actS, if_pos hE, hk, nI_clamp (n := x) (by omega), nI_clamp (n := me) (by omega)]; rfl)
                      · have hk3 : (S 10 (4 * x + me)).toNatClampNeg = 10 := by rw [hk2, nI_clamp (by omega)]; exact c_142
                        have hE : sp_actE S (nI x) (nI me) (nI so) x3 x4 x5 = -5 := by unfold sp_actE; rw [nI_clamp (n := x) (by omega), nI_clamp (n := me) (by omega), nI_clamp (n := so) (by omega)]; repeat (first | rw [if_pos c_52] | rw [if_neg c_52] | rw [if_neg (not_not_intro c_52)] | rw [if_pos c_57] | rw [if_neg c_57] | rw [if_neg (not_not_intro c_57)] | rw [if_pos c_64] | rw [if_neg c_64] | rw [if_neg (not_not_intro c_64)] | rw [if_pos n_64] | rw [if_neg n_64] | rw [if_neg (not_not_intro n_64)] | rw [if_pos c_69] | rw [if_neg c_69] | rw [if_neg (not_not_intro c_69)] | rw [if_pos n_69] | rw [if_neg n_69] | rw [if_neg (not_not_intro n_69)] | rw [if_pos c_73] | rw [if_neg c_73] | rw [if_neg (not_not_intro c_73)] | rw [if_pos n_73] | rw [if_neg n_73] | rw [if_neg (not_not_intro n_73)] | rw [if_pos c_79] | rw [if_neg c_79] | rw [if_neg (not_not_intro c_79)] | rw [if_pos n_79] | rw [if_neg n_79] | rw [if_neg (not_not_intro n_79)] | rw [if_pos c_92] | rw [if_neg c_92] | rw [if_neg (not_not_intro c_92)] | rw [if_pos c_101] | rw [if_neg c_101] | rw [if_neg (not_not_intro c_101)] | rw [if_pos n8] | rw [if_neg n8] | rw [if_neg (not_not_intro n8)] | rw [if_pos c_120] | rw [if_neg c_120] | rw [if_neg (not_not_intro c_120)] | rw [if_pos c_142] | rw [if_neg c_142] | rw [if_neg (not_not_intro c_142)] | rw [if_pos hk3] | rw [if_neg hk3] | rw [if_neg (not_not_intro hk3)])
                        refine lv_bipush (v := (-5)) hx hb dX7_act_145 (by decide) ?_
                        exact gr_i F hr hlk hK hR dX7_act_147 (by rw [sp_actR, if_neg (by rw [hE]; decide), hE]) (by rw [sp_actS, if_neg (by rw [hE]; decide)])
                    · have hE : sp_actE S (nI x) (nI me) (nI so) x3 x4 x5 = -4 := by unfold sp_actE; rw [nI_clamp (n := x) (by omega), nI_clamp (n := me) (by omega), nI_clamp (n := so) (by omega)]; repeat (first | rw [if_pos c_52] | rw [if_neg c_52] | rw [if_neg (not_not_intro c_52)] | rw [if_pos c_57] | rw [if_neg c_57] | rw [if_neg (not_not_intro c_57)] | rw [if_pos c_64] | rw [if_neg c_64] | rw [if_neg (not_not_intro c_64)] | rw [if_pos n_64] | rw [if_neg n_64] | rw [if_neg (not_not_intro n_64)] | rw [if_pos c_69] | rw [if_neg c_69] | rw [if_neg (not_not_intro c_69)] | rw [if_pos n_69] | rw [if_neg n_69] | rw [if_neg (not_not_intro n_69)] | rw [if_pos c_73] | rw [if_neg c_73] | rw [if_neg (not_not_intro c_73)] | rw [if_pos n_73] | rw [if_neg n_73] | rw [if_neg (not_not_intro n_73)] | rw [if_pos c_79] | rw [if_neg c_79] | rw [if_neg (not_not_intro c_79)] | rw [if_pos n_79] | rw [if_neg n_79] | rw [if_neg (not_not_intro n_79)] | rw [if_pos c_92] | rw [if_neg c_92] | rw [if_neg (not_not_intro c_92)] | rw [if_pos c_101] | rw [if_neg c_101] | rw [if_neg (not_not_intro c_101)] | rw [if_pos n8] | rw [if_neg n8] | rw [if_neg (not_not_intro n8)] | rw [if_pos c_120] | rw [if_neg c_120] | rw [if_neg (not_not_intro c_120)])
                      refine lv_bipush (v := (-4)) hx hb dX7_act_123 (by decide) ?_
                      exact gr_i F hr hlk hK hR dX7_act_125 (by rw [sp_actR, if_neg (by rw [hE]; decide), hE]) (by rw [sp_actS, if_neg (by rw [hE]; decide)])
                  · obtain ⟨z, h_z, rfl⟩ := has_yes hn0 hn (bad_7 c_57 (Or.inr c_101))
                    refine lv_aload_n hx hb dX7_act_104 rfl (lv_at hl 1 rfl) ?_
                    refine rg_1 F hK hR dX7_act_105 ?_
                    refine lv_iload hx hb dX7_act_108 (lv_at hl 5 rfl) ?_
                    refine ri_1 F hK hR (by omega) dX7_act_110 ?_
                    refine lv_if_ne (tgt := 123) hx hb dX7_act_111 (by decide) (fun c_111 => ?_) (fun c_111 => ?_)
                    · have n8 : so = 8 ∧ ¬ S 1 z = 0 := ⟨c_101, c_111⟩
                      have hE : sp_actE S (nI x) (nI me) (nI so) (nI z) x4 x5 = -4 := by unfold sp_actE; rw [nI_clamp (n := x) (by omega), nI_clamp (n := me) (by omega), nI_clamp (n := so) (by omega), nI_clamp (n := z) (by omega)]; repeat (first | rw [if_pos c_52] | rw [if_neg c_52] | rw [if_neg (not_not_intro c_52)] | rw [if_pos c_57] | rw [if_neg c_57] | rw [if_neg (not_not_intro c_57)] | rw [if_pos c_64] | rw [if_neg c_64] | rw [if_neg (not_not_intro c_64)] | rw [if_pos n_64] | rw [if_neg n_64] | rw [if_neg (not_not_intro n_64)] | rw [if_pos c_69] | rw [if_neg c_69] | rw [if_neg (not_not_intro c_69)] | rw [if_pos n_69] | rw [if_neg n_69] | rw [if_neg (not_not_intro n_69)] | rw [if_pos c_73] | rw [if_neg c_73] | rw [if_neg (not_not_intro c_73)] | rw [if_pos n_73] | rw [if_neg n_73] | rw [if_neg (not_not_intro n_73)] | rw [if_pos c_79] | rw [if_neg c_79] | rw [if_neg (not_not_intro c_79)] | rw [if_pos n_79] | rw [if_neg n_79] | rw [if_neg (not_not_intro n_79)] | rw [if_pos c_92] | rw [if_neg c_92] | rw [if_neg (not_not_intro c_92)] | rw [if_pos c_101] | rw [if_neg c_101] | rw [if_neg (not_not_intro c_101)] | rw [if_pos c_111] | rw [if_neg c_111] | rw [if_neg (not_not_intro c_111)] | rw [if_pos n8] | rw [if_neg n8] | rw [if_neg (not_not_intro n8)])
                      refine lv_bipush (v := (-4)) hx hb dX7_act_123 (by decide) ?_
                      exact gr_i F hr hlk hK hR dX7_act_125 (by rw [sp_actR, if_neg (by rw [hE]; decide), hE]) (by rw [sp_actS, if_neg (by rw [hE]; decide)])
                    · have n8 : ¬ (so = 8 ∧ ¬ S 1 z = 0) := fun q => q.2 c_111
                      refine lv_aload_n hx hb dX7_act_114 rfl (lv_at hl 1 rfl) ?_
                      refine rg_12 F hK hR dX7_act_115 ?_
                      refine lv_iload_n hx hb dX7_act_118 rfl (lv_at hl 2 rfl) ?_
                      refine ri_12 F hK hR (by omega) dX7_act_119 ?_
                      refine lv_if_eq (tgt := 126) hx hb dX7_act_120 (by decide) (fun c_120 => ?_) (fun c_120 => ?_)
                      · refine lv_iconst (v := nI 4) hx hb dX7_act_126 (by decide) ?_
                        refine lv_iload_n hx hb dX7_act_127 rfl (lv_at hl 2 rfl) ?_
                        refine nv_imul hx hb dX7_act_128 ?_
                        refine lv_iload_n hx hb dX7_act_129 rfl (lv_at hl 3 rfl) ?_
                        refine nv_iadd hx hb dX7_act_130 ?_
                        refine lv_istore (lv' := [(8, .int (nI (4 * x + me))), (7, .int (sp_bad (S 0 0) (nI so) (nI z) x4)), (0, .ref (adr 0)), (1, .int (nI x)), (2, .int (nI me)), (3, .int (nI so)), (4, .int (nI z)), (5, .int x4), (6, .int x5)]) hx hb dX7_act_131 hl (by decide) rfl (fun ls hl => ?_)
                        refine lv_aload_n hx hb dX7_act_133 rfl (lv_at hl 2 rfl) ?_
                        refine rg_10 F hK hR dX7_act_134 ?_
                        refine lv_iload hx hb dX7_act_137 (lv_at hl 0 rfl) ?_
                        refine ri_10 F hK hR (by omega) dX7_act_139 ?_
                        refine lv_eq (hk2) ?_
                        refine lv_bipush (v := nI 10) hx hb dX7_act_140 (by decide) ?_
                        refine nv_icmp_ne (by omega) (by omega) hx hb dX7_act_142 (tgt := 148) (by decide) (fun c_142 => ?_) (fun c_142 => ?_)
                        · have hk3 : ¬ (S 10 (4 * x + me)).toNatClampNeg = 10 := by rw [hk2, nI_clamp (by omega)]; exact c_142
                          have hE : sp_actE S (nI x) (nI me) (nI so) (nI z) x4 x5 = 0 := by unfold sp_actE; rw [nI_clamp (n := x) (by omega), nI_clamp (n := me) (by omega), nI_clamp (n := so) (by omega), nI_clamp (n := z) (by omega)]; repeat (first | rw [if_pos c_52] | rw [if_neg c_52] | rw [if_neg (not_not_intro c_52)] | rw [if_pos c_57] | rw [if_neg c_57] | rw [if_neg (not_not_intro c_57)] | rw [if_pos c_64] | rw [if_neg c_64] | rw [if_neg (not_not_intro c_64)] | rw [if_pos n_64] | rw [if_neg n_64] | rw [if_neg (not_not_intro n_64)] | rw [if_pos c_69] | rw [if_neg c_69] | rw [if_neg (not_not_intro c_69)] | rw [if_pos n_69] | rw [if_neg n_69] | rw [if_neg (not_not_intro n_69)] | rw [if_pos c_73] | rw [if_neg c_73] | rw [if_neg (not_not_intro c_73)] | rw [if_pos n_73] | rw [if_neg n_73] | rw [if_neg (not_not_intro n_73)] | rw [if_pos c_79] | rw [if_neg c_79] | rw [if_neg (not_not_intro c_79)] | rw [if_pos n_79] | rw [if_neg n_79] | rw [if_neg (not_not_intro n_79)] | rw [if_pos c_92] | rw [if_neg c_92] | rw [if_neg (not_not_intro c_92)] | rw [if_pos c_101] | rw [if_neg c_101] | rw [if_neg (not_not_intro c_101)] | rw [if_pos c_111] | rw [if_neg c_111] | rw [if_neg (not_not_intro c_111)] | rw [if_pos n8] | rw [if_neg n8] | rw [if_neg (not_not_intro n8)] | rw [if_pos c_120] | rw [if_neg c_120] | rw [if_neg (not_not_intro c_120)] | rw [if_pos c_142] | rw [if_neg c_142] | rw [if_neg (not_not_intro c_142)] | rw [if_pos hk3] | rw [if_neg hk3] | rw [if_neg (not_not_intro hk3)])
                          have hk : sp_acts S (nI x) (nI me) = k := by rw [sp_acts, nI_clamp (n := x) (by omega), nI_clamp (n := me) (by omega), hk2, nI_clamp (by omega)]
                          refine lv_bipush (v := nI 40) hx hb dX7_act_148 (by decide) ?_
                          refine lv_iload hx hb dX7_act_150 (lv_at hl 0 rfl) ?_
                          refine nv_imul hx hb dX7_act_152 ?_
                          refine lv_iconst (v := nI 4) hx hb dX7_act_153 (by decide) ?_
                          refine lv_aload_n hx hb dX7_act_154 rfl (lv_at hl 2 rfl) ?_
                          refine rg_10 F hK hR dX7_act_155 ?_
                          refine lv_iload hx hb dX7_act_158 (lv_at hl 0 rfl) ?_
                          refine ri_10 F hK hR (by omega) dX7_act_160 ?_
                          refine lv_eq (hk2) ?_
                          refine nv_imul hx hb dX7_act_161 ?_
                          refine nv_iadd hx hb dX7_act_162 ?_
                          refine lv_istore (lv' := [(9, .int (nI (40 * (4 * x + me) + 4 * k))), (8, .int (nI (4 * x + me))), (7, .int (sp_bad (S 0 0) (nI so) (nI z) x4)), (0, .ref (adr 0)), (1, .int (nI x)), (2, .int (nI me)), (3, .int (nI so)), (4, .int (nI z)), (5, .int x4), (6, .int x5)]) hx hb dX7_act_163 hl (by decide) rfl (fun ls hl => ?_)
                          refine lv_aload_n hx hb dX7_act_165 rfl (lv_at hl 3 rfl) ?_
                          refine rg_11 F hK hR dX7_act_166 ?_
                          refine lv_iload hx hb dX7_act_169 (lv_at hl 0 rfl) ?_
                          refine lv_iload_n hx hb dX7_act_171 rfl (lv_at hl 6 rfl) ?_
                          refine rs_11 F hK hR (by omega) dX7_act_172 (fun H locs hR => ?_)
                          refine lv_aload_n hx hb dX7_act_173 rfl (lv_at hl 3 rfl) ?_
                          refine rg_11 F hK hR dX7_act_174 ?_
                          refine lv_iload hx hb dX7_act_177 (lv_at hl 0 rfl) ?_
                          refine lv_iconst (v := nI 1) hx hb dX7_act_179 (by decide) ?_
                          refine nv_iadd hx hb dX7_act_180 ?_
                          refine lv_iload hx hb dX7_act_181 (lv_at hl 7 rfl) ?_
                          refine rs_11 F hK hR (by omega) dX7_act_183 (fun H locs hR => ?_)
                          refine lv_aload_n hx hb dX7_act_184 rfl (lv_at hl 3 rfl) ?_
                          refine rg_11 F hK hR dX7_act_185 ?_
                          refine lv_iload hx hb dX7_act_188 (lv_at hl 0 rfl) ?_
                          refine lv_iconst (v := nI 2) hx hb dX7_act_190 (by decide) ?_
                          refine nv_iadd hx hb dX7_act_191 ?_
                          refine lv_iload hx hb dX7_act_192 (lv_at hl 8 rfl) ?_
                          refine rs_11 F hK hR (by omega) dX7_act_194 (fun H locs hR => ?_)
                          refine lv_aload_n hx hb dX7_act_195 rfl (lv_at hl 3 rfl) ?_
                          refine rg_11 F hK hR dX7_act_196 ?_
                          refine lv_iload hx hb dX7_act_199 (lv_at hl 0 rfl) ?_
                          refine lv_iconst (v := nI 3) hx hb dX7_act_201 (by decide) ?_
                          refine nv_iadd hx hb dX7_act_202 ?_
                          refine lv_iload hx hb dX7_act_203 (lv_at hl 9 rfl) ?_
                          refine rs_11 F hK hR (by omega) dX7_act_205 (fun H locs hR => ?_)
                          refine lv_aload_n hx hb dX7_act_206 rfl (lv_at hl 3 rfl) ?_
                          refine rg_10 F hK hR dX7_act_207 ?_
                          refine lv_iload hx hb dX7_act_210 (lv_at hl 1 rfl) ?_
                          refine lv_dup2_11 hx hb dX7_act_212 rfl rfl ?_
                          refine ri_10 F hK hR (by omega) dX7_act_213 ?_
                          refine lv_eq (((((m2_nk (by decide)).trans (m2_nk (by decide))).trans (m2_nk (by decide))).trans (m2_nk (by decide))).trans (hk2)) ?_
                          refine lv_iconst (v := nI 1) hx hb dX7_act_214 (by decide) ?_
                          refine nv_iadd hx hb dX7_act_215 ?_
                          refine rs_10 F hK hR (by omega) dX7_act_216 (fun H locs hR => ?_)
                          refine lv_aload_n hx hb dX7_act_217 rfl (lv_at hl 3 rfl) ?_
                          refine rg_10 F hK hR dX7_act_218 ?_
                          refine lv_iload hx hb dX7_act_221 (lv_at hl 1 rfl) ?_
                          refine ri_10 F hK hR (by omega) dX7_act_223 ?_
                          refine lv_eq (m2_at) ?_
                          exact gr_i F hr hlk hK hR dX7_act_224 (by rw [sp_actR, if_pos hE, hk]) (by rw [sp_actS, if_pos hE, hk, nI_clamp (n := x) (by omega), nI_clamp (n := me) (by omega)]; rfl)
                        · have hk3 : (S 10 (4 * x + me)).toNatClampNeg = 10 := by rw [hk2, nI_clamp (by omega)]; exact c_142
                          have hE : sp_actE S (nI x) (nI me) (nI so) (nI z) x4 x5 = -5 := by unfold sp_actE; rw [nI_clamp (n := x) (by omega), nI_clamp (n := me) (by omega), nI_clamp (n := so) (by omega), nI_clamp (n := z) (by omega)]; repeat (first | rw [if_pos c_52] | rw [if_neg c_52] | rw [if_neg (not_not_intro c_52)] | rw [if_pos c_57] | rw [if_neg c_57] | rw [if_neg (not_not_intro c_57)] | rw [if_pos c_64] | rw [if_neg c_64] | rw [if_neg (not_not_intro c_64)] | rw [if_pos n_64] | rw [if_neg n_64] | rw [if_neg (not_not_intro n_64)] | rw [if_pos c_69] | rw [if_neg c_69] | rw [if_neg (not_not_intro c_69)] | rw [if_pos n_69] | rw [if_neg n_69] | rw [if_neg (not_not_intro n_69)] | rw [if_pos c_73] | rw [if_neg c_73] | rw [if_neg (not_not_intro c_73)] | rw [if_pos n_73] | rw [if_neg n_73] | rw [if_neg (not_not_intro n_73)] | rw [if_pos c_79] | rw [if_neg c_79] | rw [if_neg (not_not_intro c_79)] | rw [if_pos n_79] | rw [if_neg n_79] | rw [if_neg (not_not_intro n_79)] | rw [if_pos c_92] | rw [if_neg c_92] | rw [if_neg (not_not_intro c_92)] | rw [if_pos c_101] | rw [if_neg c_101] | rw [if_neg (not_not_intro c_101)] | rw [if_pos c_111] | rw [if_neg c_111] | rw [if_neg (not_not_intro c_111)] | rw [if_pos n8] | rw [if_neg n8] | rw [if_neg (not_not_intro n8)] | rw [if_pos c_120] | rw [if_neg c_120] | rw [if_neg (not_not_intro c_120)] | rw [if_pos c_142] | rw [if_neg c_142] | rw [if_neg (not_not_intro c_142)] | rw [if_pos hk3] | rw [if_neg hk3] | rw [if_neg (not_not_intro hk3)])
                          refine lv_bipush (v := (-5)) hx hb dX7_act_145 (by decide) ?_
                          exact gr_i F hr hlk hK hR dX7_act_147 (by rw [sp_actR, if_neg (by rw [hE]; decide), hE]) (by rw [sp_actS, if_neg (by rw [hE]; decide)])
                      · have hE : sp_actE S (nI x) (nI me) (nI so) (nI z) x4 x5 = -4 := by unfold sp_actE; rw [nI_clamp (n := x) (by omega), nI_clamp (n := me) (by omega), nI_clamp (n := so) (by omega), nI_clamp (n := z) (by omega)]; repeat (first | rw [if_pos c_52] | rw [if_neg c_52] | rw [if_neg (not_not_intro c_52)] | rw [if_pos c_57] | rw [if_neg c_57] | rw [if_neg (not_not_intro c_57)] | rw [if_pos c_64] | rw [if_neg c_64] | rw [if_neg (not_not_intro c_64)] | rw [if_pos n_64] | rw [if_neg n_64] | rw [if_neg (not_not_intro n_64)] | rw [if_pos c_69] | rw [if_neg c_69] | rw [if_neg (not_not_intro c_69)] | rw [if_pos n_69] | rw [if_neg n_69] | rw [if_neg (not_not_intro n_69)] | rw [if_pos c_73] | rw [if_neg c_73] | rw [if_neg (not_not_intro c_73)] | rw [if_pos n_73] | rw [if_neg n_73] | rw [if_neg (not_not_intro n_73)] | rw [if_pos c_79] | rw [if_neg c_79] | rw [if_neg (not_not_intro c_79)] | rw [if_pos n_79] | rw [if_neg n_79] | rw [if_neg (not_not_intro n_79)] | rw [if_pos c_92] | rw [if_neg c_92] | rw [if_neg (not_not_intro c_92)] | rw [if_pos c_101] | rw [if_neg c_101] | rw [if_neg (not_not_intro c_101)] | rw [if_pos c_111] | rw [if_neg c_111] | rw [if_neg (not_not_intro c_111)] | rw [if_pos n8] | rw [if_neg n8] | rw [if_neg (not_not_intro n8)] | rw [if_pos c_120] | rw [if_neg c_120] | rw [if_neg (not_not_intro c_120)])
                        refine lv_bipush (v := (-4)) hx hb dX7_act_123 (by decide) ?_
                        exact gr_i F hr hlk hK hR dX7_act_125 (by rw [sp_actR, if_neg (by rw [hE]; decide), hE]) (by rw [sp_actS, if_neg (by rw [hE]; decide)])
                · have hE : sp_actE S (nI x) (nI me) (nI so) x3 x4 x5 = -3 := by unfold sp_actE; rw [nI_clamp (n := x) (by omega), nI_clamp (n := me) (by omega), nI_clamp (n := so) (by omega)]; repeat (first | rw [if_pos c_52] | rw [if_neg c_52] | rw [if_neg (not_not_intro c_52)] | rw [if_pos c_57] | rw [if_neg c_57] | rw [if_neg (not_not_intro c_57)] | rw [if_pos c_64] | rw [if_neg c_64] | rw [if_neg (not_not_intro c_64)] | rw [if_pos n_64] | rw [if_neg n_64] | rw [if_neg (not_not_intro n_64)] | rw [if_pos c_69] | rw [if_neg c_69] | rw [if_neg (not_not_intro c_69)] | rw [if_pos n_69] | rw [if_neg n_69] | rw [if_neg (not_not_intro n_69)] | rw [if_pos c_73] | rw [if_neg c_73] | rw [if_neg (not_not_intro c_73)] | rw [if_pos n_73] | rw [if_neg n_73] | rw [if_neg (not_not_intro n_73)] | rw [if_pos c_79] | rw [if_neg c_79] | rw [if_neg (not_not_intro c_79)] | rw [if_pos n_79] | rw [if_neg n_79] | rw [if_neg (not_not_intro n_79)] | rw [if_pos c_92] | rw [if_neg c_92] | rw [if_neg (not_not_intro c_92)])
                  refine lv_bipush (v := (-3)) hx hb dX7_act_95 (by decide) ?_
                  exact gr_i F hr hlk hK hR dX7_act_97 (by rw [sp_actR, if_neg (by rw [hE]; decide), hE]) (by rw [sp_actS, if_neg (by rw [hE]; decide)])
      · have hE : sp_actE S (nI x) x1 x2 x3 x4 x5 = -2 := by unfold sp_actE; rw [nI_clamp (n := x) (by omega)]; repeat (first | rw [if_pos c_52] | rw [if_neg c_52] | rw [if_neg (not_not_intro c_52)] | rw [if_pos c_57] | rw [if_neg c_57] | rw [if_neg (not_not_intro c_57)])
        refine lv_bipush (v := (-2)) hx hb dX7_act_60 (by decide) ?_
        exact gr_i F hr hlk hK hR dX7_act_62 (by rw [sp_actR, if_neg (by rw [hE]; decide), hE]) (by rw [sp_actS, if_neg (by rw [hE]; decide)])
  · skip
    refine lv_iload_n hx hb dX7_act_0 rfl (lv_at hl 3 rfl) ?_
    refine lv_iconst (v := nI 1) hx hb dX7_act_1 (by decide) ?_
    refine lv_icmp_lt (tgt := 19) hx hb dX7_act_2 (by decide) (fun c_2 => ?_) (fun c_2 => ?_)
    · have n_2 := Int32.not_le.mpr c_2
      refine lv_iload_n hx hb dX7_act_19 rfl (lv_at hl 3 rfl) ?_
      refine lv_bipush (v := nI 7) hx hb dX7_act_20 (by decide) ?_
      refine lv_icmp_eq (tgt := 31) hx hb dX7_act_22 (by decide) (fun c_22 => ?_) (fun c_22 => ?_)
      · refine lv_aload_n hx hb dX7_act_31 rfl (lv_at hl 0 rfl) ?_
        refine lv_iload hx hb dX7_act_32 (lv_at hl 4 rfl) ?_
        refine gcVi (As := [.int x3]) F hK hR hml cv_X7_87 (o := 0) rfl rfl rfl (c_X7_has l G A adr S X x3) ⟨rfl, rfl⟩ ⟨Nat.le_of_ble_eq_true rfl, Nat.le_of_ble_eq_true rfl⟩ rfl rfl hl.1 (Nat.le_of_ble_eq_true rfl) dX7_act_34 ⟨Nat.zero_le _, Nat.zero_le _⟩ (fun H locs hR => ?_)
        refine lv_if_ne (tgt := 44) hx hb dX7_act_37 (by decide) (fun c_37 => ?_) (fun c_37 => ?_)
        · refine lv_iconst (v := nI 0) hx hb dX7_act_44 (by decide) ?_
          refine lv_istore (lv' := [(7, .int (nI 0)), (0, .ref (adr 0)), (1, .int x0), (2, .int x1), (3, .int x2), (4, .int x3), (5, .int x4), (6, .int x5)]) hx hb dX7_act_45 hl (by decide) rfl (fun ls hl => ?_)
          have q : nI 0 = sp_bad (S 0 0) x2 x3 x4 := by unfold sp_bad; simp [c_2, n_2, c_22, c_37] <;> (intro _ h; exact absurd h (by decide))
          exact K _ _ _ ⟨hR, by rw [← q]; exact lv_sub hl [0, 1, 2, 3, 4, 5, 6, 7] rfl⟩
        · refine lv_iconst (v := nI 1) hx hb dX7_act_40 (by decide) ?_
          refine lv_goto (tgt := 45) hx hb dX7_act_41 (by decide) ?_
          refine lv_istore (lv' := [(7, .int (nI 1)), (0, .ref (adr 0)), (1, .int x0), (2, .int x1), (3, .int x2), (4, .int x3), (5, .int x4), (6, .int x5)]) hx hb dX7_act_45 hl (by decide) rfl (fun ls hl => ?_)
          have q : nI 1 = sp_bad (S 0 0) x2 x3 x4 := by unfold sp_bad; simp [c_2, n_2, c_22, c_37] <;> (intro _ h; exact absurd h (by decide))
          exact K _ _ _ ⟨hR, by rw [← q]; exact lv_sub hl [0, 1, 2, 3, 4, 5, 6, 7] rfl⟩
      · refine lv_iload_n hx hb dX7_act_25 rfl (lv_at hl 3 rfl) ?_
        refine lv_bipush (v := nI 8) hx hb dX7_act_26 (by decide) ?_
        refine lv_icmp_ne (tgt := 44) hx hb dX7_act_28 (by decide) (fun c_28 => ?_) (fun c_28 => ?_)
        · refine lv_iconst (v := nI 0) hx hb dX7_act_44 (by decide) ?_
          refine lv_istore (lv' := [(7, .int (nI 0)), (0, .ref (adr 0)), (1, .int x0), (2, .int x1), (3, .int x2), (4, .int x3), (5, .int x4), (6, .int x5)]) hx hb dX7_act_45 hl (by decide) rfl (fun ls hl => ?_)
          have q : nI 0 = sp_bad (S 0 0) x2 x3 x4 := by unfold sp_bad; simp [c_2, n_2, c_22, c_28] <;> (intro _ h; exact absurd h (by decide))
          exact K _ _ _ ⟨hR, by rw [← q]; exact lv_sub hl [0, 1, 2, 3, 4, 5, 6, 7] rfl⟩
        · refine lv_aload_n hx hb dX7_act_31 rfl (lv_at hl 0 rfl) ?_
          refine lv_iload hx hb dX7_act_32 (lv_at hl 4 rfl) ?_
          refine gcVi (As := [.int x3]) F hK hR hml cv_X7_87 (o := 0) rfl rfl rfl (c_X7_has l G A adr S X x3) ⟨rfl, rfl⟩ ⟨Nat.le_of_ble_eq_true rfl, Nat.le_of_ble_eq_true rfl⟩ rfl rfl hl.1 (Nat.le_of_ble_eq_true rfl) dX7_act_34 ⟨Nat.zero_le _, Nat.zero_le _⟩ (fun H locs hR => ?_)
          refine lv_if_ne (tgt := 44) hx hb dX7_act_37 (by decide) (fun c_37 => ?_) (fun c_37 => ?_)
          · refine lv_iconst (v := nI 0) hx hb dX7_act_44 (by decide) ?_
            refine lv_istore (lv' := [(7, .int (nI 0)), (0, .ref (adr 0)), (1, .int x0), (2, .int x1), (3, .int x2), (4, .int x3), (5, .int x4), (6, .int x5)]) hx hb dX7_act_45 hl (by decide) rfl (fun ls hl => ?_)
            have q : nI 0 = sp_bad (S 0 0) x2 x3 x4 := by unfold sp_bad; simp [c_2, n_2, c_22, c_28, c_37] <;> (intro _ h; exact absurd h (by decide))
            exact K _ _ _ ⟨hR, by rw [← q]; exact lv_sub hl [0, 1, 2, 3, 4, 5, 6, 7] rfl⟩
          · refine lv_iconst (v := nI 1) hx hb dX7_act_40 (by decide) ?_
            refine lv_goto (tgt := 45) hx hb dX7_act_41 (by decide) ?_
            refine lv_istore (lv' := [(7, .int (nI 1)), (0, .ref (adr 0)), (1, .int x0), (2, .int x1), (3, .int x2), (4, .int x3), (5, .int x4), (6, .int x5)]) hx hb dX7_act_45 hl (by decide) rfl (fun ls hl => ?_)
            have q : nI 1 = sp_bad (S 0 0) x2 x3 x4 := by unfold sp_bad; simp [c_2, n_2, c_22, c_28, c_37] <;> (intro _ h; exact absurd h (by decide))
            exact K _ _ _ ⟨hR, by rw [← q]; exact lv_sub hl [0, 1, 2, 3, 4, 5, 6, 7] rfl⟩
    · have n_2 := Int32.not_lt.mp c_2
      refine lv_iload_n hx hb dX7_act_5 rfl (lv_at hl 3 rfl) ?_
      refine lv_iconst (v := nI 3) hx hb dX7_act_6 (by decide) ?_
      refine lv_icmp_gt (tgt := 19) hx hb dX7_act_7 (by decide) (fun c_7 => ?_) (fun c_7 => ?_)
      · have n_7 := Int32.not_le.mpr c_7
        refine lv_iload_n hx hb dX7_act_19 rfl (lv_at hl 3 rfl) ?_
        refine lv_bipush (v := nI 7) hx hb dX7_act_20 (by decide) ?_
        refine lv_icmp_eq (tgt := 31) hx hb dX7_act_22 (by decide) (fun c_22 => ?_) (fun c_22 => ?_)
        · refine lv_aload_n hx hb dX7_act_31 rfl (lv_at hl 0 rfl) ?_
          refine lv_iload hx hb dX7_act_32 (lv_at hl 4 rfl) ?_
          refine gcVi (As := [.int x3]) F hK hR hml cv_X7_87 (o := 0) rfl rfl rfl (c_X7_has l G A adr S X x3) ⟨rfl, rfl⟩ ⟨Nat.le_of_ble_eq_true rfl, Nat.le_of_ble_eq_true rfl⟩ rfl rfl hl.1 (Nat.le_of_ble_eq_true rfl) dX7_act_34 ⟨Nat.zero_le _, Nat.zero_le _⟩ (fun H locs hR => ?_)
          refine lv_if_ne (tgt := 44) hx hb dX7_act_37 (by decide) (fun c_37 => ?_) (fun c_37 => ?_)
          · refine lv_iconst (v := nI 0) hx hb dX7_act_44 (by decide) ?_
            refine lv_istore (lv' := [(7, .int (nI 0)), (0, .ref (adr 0)), (1, .int x0), (2, .int x1), (3, .int x2), (4, .int x3), (5, .int x4), (6, .int x5)]) hx hb dX7_act_45 hl (by decide) rfl (fun ls hl => ?_)
            have q : nI 0 = sp_bad (S 0 0) x2 x3 x4 := by unfold sp_bad; simp [c_2, n_2, c_7, n_7, c_22, c_37] <;> (intro _ h; exact absurd h (by decide))
            exact K _ _ _ ⟨hR, by rw [← q]; exact lv_sub hl [0, 1, 2, 3, 4, 5, 6, 7] rfl⟩
          · refine lv_iconst (v := nI 1) hx hb dX7_act_40 (by decide) ?_
            refine lv_goto (tgt := 45) hx hb dX7_act_41 (by decide) ?_
            refine lv_istore (lv' := [(7, .int (nI 1)), (0, .ref (adr 0)), (1, .int x0), (2, .int x1), (3, .int x2), (4, .int x3), (5, .int x4), (6, .int x5)]) hx hb dX7_act_45 hl (by decide) rfl (fun ls hl => ?_)
            have q : nI 1 = sp_bad (S 0 0) x2 x3 x4 := by unfold sp_bad; simp [c_2, n_2, c_7, n_7, c_22, c_37] <;> (intro _ h; exact absurd h (by decide))
            exact K _ _ _ ⟨hR, by rw [← q]; exact lv_sub hl [0, 1, 2, 3, 4, 5, 6, 7] rfl⟩
        · refine lv_iload_n hx hb dX7_act_25 rfl (lv_at hl 3 rfl) ?_
          refine lv_bipush (v := nI 8) hx hb dX7_act_26 (by decide) ?_
          refine lv_icmp_ne (tgt := 44) hx hb dX7_act_28 (by decide) (fun c_28 => ?_) (fun c_28 => ?_)
          · refine lv_iconst (v := nI 0) hx hb dX7_act_44 (by decide) ?_
            refine lv_istore (lv' := [(7, .int (nI 0)), (0, .ref (adr 0)), (1, .int x0), (2, .int x1), (3, .int x2), (4, .int x3), (5, .int x4), (6, .int x5)]) hx hb dX7_act_45 hl (by decide) rfl (fun ls hl => ?_)
            have q : nI 0 = sp_bad (S 0 0) x2 x3 x4 := by unfold sp_bad; simp [c_2, n_2, c_7, n_7, c_22, c_28] <;> (intro _ h; exact absurd h (by decide))
            exact K _ _ _ ⟨hR, by rw [← q]; exact lv_sub hl [0, 1, 2, 3, 4, 5, 6, 7] rfl⟩
          · refine lv_aload_n hx hb dX7_act_31 rfl (lv_at hl 0 rfl) ?_
            refine lv_iload hx hb dX7_act_32 (lv_at hl 4 rfl) ?_
            refine gcVi (As := [.int x3]) F hK hR hml cv_X7_87 (o := 0) rfl rfl rfl (c_X7_has l G A adr S X x3) ⟨rfl, rfl⟩ ⟨Nat.le_of_ble_eq_true rfl, Nat.le_of_ble_eq_true rfl⟩ rfl rfl hl.1 (Nat.le_of_ble_eq_true rfl) dX7_act_34 ⟨Nat.zero_le _, Nat.zero_le _⟩ (fun H locs hR => ?_)
            refine lv_if_ne (tgt := 44) hx hb dX7_act_37 (by decide) (fun c_37 => ?_) (fun c_37 => ?_)
            · refine lv_iconst (v := nI 0) hx hb dX7_act_44 (by decide) ?_
              refine lv_istore (lv' := [(7, .int (nI 0)), (0, .ref (adr 0)), (1, .int x0), (2, .int x1), (3, .int x2), (4, .int x3), (5, .int x4), (6, .int x5)]) hx hb dX7_act_45 hl (by decide) rfl (fun ls hl => ?_)
              have q : nI 0 = sp_bad (S 0 0) x2 x3 x4 := by unfold sp_bad; simp [c_2, n_2, c_7, n_7, c_22, c_28, c_37] <;> (intro _ h; exact absurd h (by decide))
              exact K _ _ _ ⟨hR, by rw [← q]; exact lv_sub hl [0, 1, 2, 3, 4, 5, 6, 7] rfl⟩
            · refine lv_iconst (v := nI 1) hx hb dX7_act_40 (by decide) ?_
              refine lv_goto (tgt := 45) hx hb dX7_act_41 (by decide) ?_
              refine lv_istore (lv' := [(7, .int (nI 1)), (0, .ref (adr 0)), (1, .int x0), (2, .int x1), (3, .int x2), (4, .int x3), (5, .int x4), (6, .int x5)]) hx hb dX7_act_45 hl (by decide) rfl (fun ls hl => ?_)
              have q : nI 1 = sp_bad (S 0 0) x2 x3 x4 := by unfold sp_bad; simp [c_2, n_2, c_7, n_7, c_22, c_28, c_37] <;> (intro _ h; exact absurd h (by decide))
              exact K _ _ _ ⟨hR, by rw [← q]; exact lv_sub hl [0, 1, 2, 3, 4, 5, 6, 7] rfl⟩
      · have n_7 := Int32.not_lt.mp c_7
        refine lv_aload_n hx hb dX7_act_10 rfl (lv_at hl 0 rfl) ?_
        refine lv_iload hx hb dX7_act_11 (lv_at hl 5 rfl) ?_
        refine gcVi (As := [.int x4]) F hK hR hml cv_X7_87 (o := 0) rfl rfl rfl (c_X7_has l G A adr S X x4) ⟨rfl, rfl⟩ ⟨Nat.le_of_ble_eq_true rfl, Nat.le_of_ble_eq_true rfl⟩ rfl rfl hl.1 (Nat.le_of_ble_eq_true rfl) dX7_act_13 ⟨Nat.zero_le _, Nat.zero_le _⟩ (fun H locs hR => ?_)
        refine lv_if_eq (tgt := 40) hx hb dX7_act_16 (by decide) (fun c_16 => ?_) (fun c_16 => ?_)
        · refine lv_iconst (v := nI 1) hx hb dX7_act_40 (by decide) ?_
          refine lv_goto (tgt := 45) hx hb dX7_act_41 (by decide) ?_
          refine lv_istore (lv' := [(7, .int (nI 1)), (0, .ref (adr 0)), (1, .int x0), (2, .int x1), (3, .int x2), (4, .int x3), (5, .int x4), (6, .int x5)]) hx hb dX7_act_45 hl (by decide) rfl (fun ls hl => ?_)
          have q : nI 1 = sp_bad (S 0 0) x2 x3 x4 := by unfold sp_bad; simp [c_2, n_2, c_7, n_7, c_16] <;> (intro _ h; exact absurd h (by decide))
          exact K _ _ _ ⟨hR, by rw [← q]; exact lv_sub hl [0, 1, 2, 3, 4, 5, 6, 7] rfl⟩
        · refine lv_iload_n hx hb dX7_act_19 rfl (lv_at hl 3 rfl) ?_
          refine lv_bipush (v := nI 7) hx hb dX7_act_20 (by decide) ?_
          refine lv_icmp_eq (tgt := 31) hx hb dX7_act_22 (by decide) (fun c_22 => ?_) (fun c_22 => ?_)
          · refine lv_aload_n hx hb dX7_act_31 rfl (lv_at hl 0 rfl) ?_
            refine lv_iload hx hb dX7_act_32 (lv_at hl 4 rfl) ?_
            refine gcVi (As := [.int x3]) F hK hR hml cv_X7_87 (o := 0) rfl rfl rfl (c_X7_has l G A adr S X x3) ⟨rfl, rfl⟩ ⟨Nat.le_of_ble_eq_true rfl, Nat.le_of_ble_eq_true rfl⟩ rfl rfl hl.1 (Nat.le_of_ble_eq_true rfl) dX7_act_34 ⟨Nat.zero_le _, Nat.zero_le _⟩ (fun H locs hR => ?_)
            refine lv_if_ne (tgt := 44) hx hb dX7_act_37 (by decide) (fun c_37 => ?_) (fun c_37 => ?_)
            · refine lv_iconst (v := nI 0) hx hb dX7_act_44 (by decide) ?_
              refine lv_istore (lv' := [(7, .int (nI 0)), (0, .ref (adr 0)), (1, .int x0), (2, .int x1), (3, .int x2), (4, .int x3), (5, .int x4), (6, .int x5)]) hx hb dX7_act_45 hl (by decide) rfl (fun ls hl => ?_)
              have q : nI 0 = sp_bad (S 0 0) x2 x3 x4 := by unfold sp_bad; simp [c_2, n_2, c_7, n_7, c_16, c_22, c_37] <;> (intro _ h; exact absurd h (by decide))
              exact K _ _ _ ⟨hR, by rw [← q]; exact lv_sub hl [0, 1, 2, 3, 4, 5, 6, 7] rfl⟩
            · refine lv_iconst (v := nI 1) hx hb dX7_act_40 (by decide) ?_
              refine lv_goto (tgt := 45) hx hb dX7_act_41 (by decide) ?_
              refine lv_istore (lv' := [(7, .int (nI 1)), (0, .ref (adr 0)), (1, .int x0), (2, .int x1), (3, .int x2), (4, .int x3), (5, .int x4), (6, .int x5)]) hx hb dX7_act_45 hl (by decide) rfl (fun ls hl => ?_)
              have q : nI 1 = sp_bad (S 0 0) x2 x3 x4 := by unfold sp_bad; simp [c_2, n_2, c_7, n_7, c_16, c_22, c_37] <;> (intro _ h; exact absurd h (by decide))
              exact K _ _ _ ⟨hR, by rw [← q]; exact lv_sub hl [0, 1, 2, 3, 4, 5, 6, 7] rfl⟩
          · refine lv_iload_n hx hb dX7_act_25 rfl (lv_at hl 3 rfl) ?_
            refine lv_bipush (v := nI 8) hx hb dX7_act_26 (by decide) ?_
            refine lv_icmp_ne (tgt := 44) hx hb dX7_act_28 (by decide) (fun c_28 => ?_) (fun c_28 => ?_)
            · refine lv_iconst (v := nI 0) hx hb dX7_act_44 (by decide) ?_
              refine lv_istore (lv' := [(7, .int (nI 0)), (0, .ref (adr 0)), (1, .int x0), (2, .int x1), (3, .int x2), (4, .int x3), (5, .int x4), (6, .int x5)]) hx hb dX7_act_45 hl (by decide) rfl (fun ls hl => ?_)
              have q : nI 0 = sp_bad (S 0 0) x2 x3 x4 := by unfold sp_bad; simp [c_2, n_2, c_7, n_7, c_16, c_22, c_28] <;> (intro _ h; exact absurd h (by decide))
              exact K _ _ _ ⟨hR, by rw [← q]; exact lv_sub hl [0, 1, 2, 3, 4, 5, 6, 7] rfl⟩
            · refine lv_aload_n hx hb dX7_act_31 rfl (lv_at hl 0 rfl) ?_
              refine lv_iload hx hb dX7_act_32 (lv_at hl 4 rfl) ?_
              refine gcVi (As := [.int x3]) F hK hR hml cv_X7_87 (o := 0) rfl rfl rfl (c_X7_has l G A adr S X x3) ⟨rfl, rfl⟩ ⟨Nat.le_of_ble_eq_true rfl, Nat.le_of_ble_eq_true rfl⟩ rfl rfl hl.1 (Nat.le_of_ble_eq_true rfl) dX7_act_34 ⟨Nat.zero_le _, Nat.zero_le _⟩ (fun H locs hR => ?_)
              refine lv_if_ne (tgt := 44) hx hb dX7_act_37 (by decide) (fun c_37 => ?_) (fun c_37 => ?_)
              · refine lv_iconst (v := nI 0) hx hb dX7_act_44 (by decide) ?_
                refine lv_istore (lv' := [(7, .int (nI 0)), (0, .ref (adr 0)), (1, .int x0), (2, .int x1), (3, .int x2), (4, .int x3), (5, .int x4), (6, .int x5)]) hx hb dX7_act_45 hl (by decide) rfl (fun ls hl => ?_)
                have q : nI 0 = sp_bad (S 0 0) x2 x3 x4 := by unfold sp_bad; simp [c_2, n_2, c_7, n_7, c_16, c_22, c_28, c_37] <;> (intro _ h; exact absurd h (by decide))
                exact K _ _ _ ⟨hR, by rw [← q]; exact lv_sub hl [0, 1, 2, 3, 4, 5, 6, 7] rfl⟩
              · refine lv_iconst (v := nI 1) hx hb dX7_act_40 (by decide) ?_
                refine lv_goto (tgt := 45) hx hb dX7_act_41 (by decide) ?_
                refine lv_istore (lv' := [(7, .int (nI 1)), (0, .ref (adr 0)), (1, .int x0), (2, .int x1), (3, .int x2), (4, .int x3), (5, .int x4), (6, .int x5)]) hx hb dX7_act_45 hl (by decide) rfl (fun ls hl => ?_)
                have q : nI 1 = sp_bad (S 0 0) x2 x3 x4 := by unfold sp_bad; simp [c_2, n_2, c_7, n_7, c_16, c_22, c_28, c_37] <;> (intro _ h; exact absurd h (by decide))
                exact K _ _ _ ⟨hR, by rw [← q]; exact lv_sub hl [0, 1, 2, 3, 4, 5, 6, 7] rfl⟩
set_option maxHeartbeats 4000000 in
set_option maxRecDepth 100000 in
/-- bears(x, face) -/
theorem c_X7_bears (l : Launch) (G : gw_G) (A : Nat → Prop) (adr : Nat → Nat) (S X : Nat → Nat → Int32) (n : Nat) (x0 x1 : Int32) (hn0 : S 0 0 = nI n) (hn : n ≤ 12) (hfa : ∀ x, x < 12 → ∃ fc, fc ≤ 3 ∧ S 4 x = nI fc) : gm l yX7_bears cX7_bears 5 (some .int) (rmL 1) 0 0 A [.ref (adr 0), .int x0, .int x1] (gW G A adr (rcel G adr S X)) (gW G A adr (rcel G adr (sp_bearsS S x0 x1) X)) (some (.int (sp_bearsR S x0 x1))) := by
  refine gm_of (own := RX7) (by decide) rfl (Nat.le_of_ble_eq_true rfl) ?_
  intro p e s m below meth c ls F hml hr hlk hnm hK hR hl
  have hx := F.1
  have hb := F.2.1
  have hl : lv_has ls 5 [(0, .ref (adr 0)), (1, .int x0), (2, .int x1)] := hl
  refine lv_aload_n hx hb dX7_bears_0 rfl (lv_at hl 0 rfl) ?_
  refine lv_iload_n hx hb dX7_bears_1 rfl (lv_at hl 1 rfl) ?_
  refine gcVi (As := [.int x0]) F hK hR hml cv_X7_87 (o := 0) rfl rfl rfl (c_X7_has l G A adr S X x0) ⟨rfl, rfl⟩ ⟨Nat.le_of_ble_eq_true rfl, Nat.le_of_ble_eq_true rfl⟩ rfl rfl hl.1 (Nat.le_of_ble_eq_true rfl) dX7_bears_2 ⟨Nat.zero_le _, Nat.zero_le _⟩ (fun H locs hR => ?_)
  refine lv_if_eq (tgt := 16) hx hb dX7_bears_5 (by decide) (fun c_5 => ?_) (fun c_5 => ?_)
  · have hE : sp_bearsE S x0 x1 = -2 := by unfold sp_bearsE; repeat (first | rw [if_pos c_5] | rw [if_neg c_5] | rw [if_neg (not_not_intro c_5)])
    refine lv_bipush (v := (-2)) hx hb dX7_bears_16 (by decide) ?_
    exact gr_i F hr hlk hK hR dX7_bears_18 (by rw [sp_bearsR, if_neg (by rw [hE]; decide), hE]) (by rw [sp_bearsS, if_neg (by rw [hE]; decide)])
  · obtain ⟨x, h_x, rfl⟩ := has_yes hn0 hn c_5
    refine lv_aload_n hx hb dX7_bears_8 rfl (lv_at hl 0 rfl) ?_
    refine lv_iload_n hx hb dX7_bears_9 rfl (lv_at hl 2 rfl) ?_
    refine gcVi (As := [.int x1]) F hK hR hml cv_X7_87 (o := 0) rfl rfl rfl (c_X7_has l G A adr S X x1) ⟨rfl, rfl⟩ ⟨Nat.le_of_ble_eq_true rfl, Nat.le_of_ble_eq_true rfl⟩ rfl rfl hl.1 (Nat.le_of_ble_eq_true rfl) dX7_bears_10 ⟨Nat.zero_le _, Nat.zero_le _⟩ (fun H locs hR => ?_)
    refine lv_if_ne (tgt := 19) hx hb dX7_bears_13 (by decide) (fun c_13 => ?_) (fun c_13 => ?_)
    · obtain ⟨y, h_y, rfl⟩ := has_yes hn0 hn c_13
      refine lv_iconst (v := nI 0) hx hb dX7_bears_19 (by decide) ?_
      refine lv_istore_n (lv' := [(3, .int (nI 0)), (0, .ref (adr 0)), (1, .int (nI x)), (2, .int (nI y))]) hx hb dX7_bears_20 rfl hl (by decide) rfl (fun ls hl => ?_)
      refine lv_iconst (v := nI 0) hx hb dX7_bears_21 (by decide) ?_
      refine lv_istore (lv' := [(4, .int (nI 0)), (3, .int (nI 0)), (0, .ref (adr 0)), (1, .int (nI x)), (2, .int (nI y))]) hx hb dX7_bears_22 hl (by decide) rfl (fun ls hl => ?_)
      obtain ⟨fc, hfc, hfe⟩ := hfa x (by omega)
      obtain ⟨k, hk⟩ : ∃ k, k = 0 := ⟨_, rfl⟩
      replace hl : lv_has ls 5 [(4, .int (nI k)), (3, .int (sp_isin S x y k)), (0, .ref (adr 0)), (1, .int (nI x)), (2, .int (nI y))] := by rw [hk]; exact lv_sub hl [0, 1, 2, 3, 4] rfl
      have hkf : k ≤ fc := by omega
      clear hk
      generalize hd : fc - k = d
      induction d generalizing k ls with
      | zero =>
        have hkk : k = fc := by omega
        subst hkk
        refine lv_iload hx hb dX7_bears_24 (lv_at hl 0 rfl) ?_
        refine lv_aload_n hx hb dX7_bears_26 rfl (lv_at hl 2 rfl) ?_
        refine rg_4 F hK hR dX7_bears_27 ?_
        refine lv_iload_n hx hb dX7_bears_30 rfl (lv_at hl 3 rfl) ?_
        refine ri_4 F hK hR (by omega) dX7_bears_31 ?_
        refine lv_eq (hfe) ?_
        refine nv_icmp_ge (by omega) (by omega) hx hb dX7_bears_32 (tgt := 66) (by decide) (fun c_32 => ?_) (fun c_32 => absurd c_32 (by omega))
        refine lv_aload_n hx hb dX7_bears_66 rfl (lv_at hl 2 rfl) ?_
        refine rg_1 F hK hR dX7_bears_67 ?_
        refine lv_iload_n hx hb dX7_bears_70 rfl (lv_at hl 4 rfl) ?_
        refine ri_1 F hK hR (by omega) dX7_bears_71 ?_
        refine lv_if_eq (tgt := 93) hx hb dX7_bears_72 (by decide) (fun c_72 => ?_) (fun c_72 => ?_)
        · have hE : sp_bearsE S (nI x) (nI y) = -4 := by unfold sp_bearsE; rw [nI_clamp (n := x) (by omega), nI_clamp (n := y) (by omega), hfe, nI_clamp (n := k) (by omega)]; repeat (first | rw [if_pos c_5] | rw [if_neg c_5] | rw [if_neg (not_not_intro c_5)] | rw [if_pos c_13] | rw [if_neg c_13] | rw [if_neg (not_not_intro c_13)] | rw [if_pos c_32] | rw [if_neg c_32] | rw [if_neg (not_not_intro c_32)] | rw [if_pos c_72] | rw [if_neg c_72] | rw [if_neg (not_not_intro c_72)])
          refine lv_bipush (v := (-4)) hx hb dX7_bears_93 (by decide) ?_
          exact gr_i F hr hlk hK hR dX7_bears_95 (by rw [sp_bearsR, if_neg (by rw [hE]; decide), hE]) (by rw [sp_bearsS, if_neg (by rw [hE]; decide)])
        · refine lv_iload_n hx hb dX7_bears_75 rfl (lv_at hl 4 rfl) ?_
          refine lv_iload_n hx hb dX7_bears_76 rfl (lv_at hl 3 rfl) ?_
          refine nv_icmp_ge (by omega) (by omega) hx hb dX7_bears_77 (tgt := 93) (by decide) (fun c_77 => ?_) (fun c_77 => ?_)
          · have n_77 : ¬ (y < x) := by omega
            have hE : sp_bearsE S (nI x) (nI y) = -4 := by unfold sp_bearsE; rw [nI_clamp (n := x) (by omega), nI_clamp (n := y) (by omega), hfe, nI_clamp (n := k) (by omega)]; repeat (first | rw [if_pos c_5] | rw [if_neg c_5] | rw [if_neg (not_not_intro c_5)] | rw [if_pos c_13] | rw [if_neg c_13] | rw [if_neg (not_not_intro c_13)] | rw [if_pos c_32] | rw [if_neg c_32] | rw [if_neg (not_not_intro c_32)] | rw [if_pos c_72] | rw [if_neg c_72] | rw [if_neg (not_not_intro c_72)] | rw [if_pos c_77] | rw [if_neg c_77] | rw [if_neg (not_not_intro c_77)] | rw [if_pos n_77] | rw [if_neg n_77] | rw [if_neg (not_not_intro n_77)])
            refine lv_bipush (v := (-4)) hx hb dX7_bears_93 (by decide) ?_
            exact gr_i F hr hlk hK hR dX7_bears_95 (by rw [sp_bearsR, if_neg (by rw [hE]; decide), hE]) (by rw [sp_bearsS, if_neg (by rw [hE]; decide)])
          · have n_77 : ¬ (x ≤ y) := by omega
            refine lv_iload_n hx hb dX7_bears_80 rfl (lv_at hl 1 rfl) ?_
            refine lv_if_ne (tgt := 93) hx hb dX7_bears_81 (by decide) (fun c_81 => ?_) (fun c_81 => ?_)
            · have hE : sp_bearsE S (nI x) (nI y) = -4 := by unfold sp_bearsE; rw [nI_clamp (n := x) (by omega), nI_clamp (n := y) (by omega), hfe, nI_clamp (n := k) (by omega)]; repeat (first | rw [if_pos c_5] | rw [if_neg c_5] | rw [if_neg (not_not_intro c_5)] | rw [if_pos c_13] | rw [if_neg c_13] | rw [if_neg (not_not_intro c_13)] | rw [if_pos c_32] | rw [if_neg c_32] | rw [if_neg (not_not_intro c_32)] | rw [if_pos c_72] | rw [if_neg c_72] | rw [if_neg (not_not_intro c_72)] | rw [if_pos c_77] | rw [if_neg c_77] | rw [if_neg (not_not_intro c_77)] | rw [if_pos n_77] | rw [if_neg n_77] | rw [if_neg (not_not_intro n_77)] | rw [if_pos c_81] | rw [if_neg c_81] | rw [if_neg (not_not_intro c_81)])
              refine lv_bipush (v := (-4)) hx hb dX7_bears_93 (by decide) ?_
              exact gr_i F hr hlk hK hR dX7_bears_95 (by rw [sp_bearsR, if_neg (by rw [hE]; decide), hE]) (by rw [sp_bearsS, if_neg (by rw [hE]; decide)])
            · refine lv_aload_n hx hb dX7_bears_84 rfl (lv_at hl 2 rfl) ?_
              refine rg_12 F hK hR dX7_bears_85 ?_
              refine lv_iload_n hx hb dX7_bears_88 rfl (lv_at hl 3 rfl) ?_
              refine ri_12 F hK hR (by omega) dX7_bears_89 ?_
              refine lv_if_eq (tgt := 96) hx hb dX7_bears_90 (by decide) (fun c_90 => ?_) (fun c_90 => ?_)
              · refine lv_aload_n hx hb dX7_bears_96 rfl (lv_at hl 2 rfl) ?_
                refine rg_4 F hK hR dX7_bears_97 ?_
                refine lv_iload_n hx hb dX7_bears_100 rfl (lv_at hl 3 rfl) ?_
                refine ri_4 F hK hR (by omega) dX7_bears_101 ?_
                refine lv_eq (hfe) ?_
                refine lv_iconst (v := nI 3) hx hb dX7_bears_102 (by decide) ?_
                refine nv_icmp_ne (by omega) (by omega) hx hb dX7_bears_103 (tgt := 109) (by decide) (fun c_103 => ?_) (fun c_103 => ?_)
                · have hE : sp_bearsE S (nI x) (nI y) = 0 := by unfold sp_bearsE; rw [nI_clamp (n := x) (by omega), nI_clamp (n := y) (by omega), hfe, nI_clamp (n := k) (by omega)]; repeat (first | rw [if_pos c_5] | rw [if_neg c_5] | rw [if_neg (not_not_intro c_5)] | rw [if_pos c_13] | rw [if_neg c_13] | rw [if_neg (not_not_intro c_13)] | rw [if_pos c_32] | rw [if_neg c_32] | rw [if_neg (not_not_intro c_32)] | rw [if_pos c_72] | rw [if_neg c_72] | rw [if_neg (not_not_intro c_72)] | rw [if_pos c_77] | rw [if_neg c_77] | rw [if_neg (not_not_intro c_77)] | rw [if_pos n_77] | rw [if_neg n_77] | rw [if_neg (not_not_intro n_77)] | rw [if_pos c_81] | rw [if_neg c_81] | rw [if_neg (not_not_intro c_81)] | rw [if_pos c_90] | rw [if_neg c_90] | rw [if_neg (not_not_intro c_90)] | rw [if_pos c_103] | rw [if_neg c_103] | rw [if_neg (not_not_intro c_103)])
                  refine lv_aload_n hx hb dX7_bears_109 rfl (lv_at hl 2 rfl) ?_
                  refine rg_5 F hK hR dX7_bears_110 ?_
                  refine lv_iconst (v := nI 3) hx hb dX7_bears_113 (by decide) ?_
                  refine lv_iload_n hx hb dX7_bears_114 rfl (lv_at hl 3 rfl) ?_
                  refine nv_imul hx hb dX7_bears_115 ?_
                  refine lv_aload_n hx hb dX7_bears_116 rfl (lv_at hl 2 rfl) ?_
                  refine rg_4 F hK hR dX7_bears_117 ?_
                  refine lv_iload_n hx hb dX7_bears_120 rfl (lv_at hl 3 rfl) ?_
                  refine ri_4 F hK hR (by omega) dX7_bears_121 ?_
                  refine lv_eq (hfe) ?_
                  refine nv_iadd hx hb dX7_bears_122 ?_
                  refine lv_iload_n hx hb dX7_bears_123 rfl (lv_at hl 4 rfl) ?_
                  refine rs_5 F hK hR (by omega) dX7_bears_124 (fun H locs hR => ?_)
                  refine lv_aload_n hx hb dX7_bears_125 rfl (lv_at hl 2 rfl) ?_
                  refine rg_4 F hK hR dX7_bears_126 ?_
                  refine lv_iload_n hx hb dX7_bears_129 rfl (lv_at hl 3 rfl) ?_
                  refine lv_dup2_11 hx hb dX7_bears_130 rfl rfl ?_
                  refine ri_4 F hK hR (by omega) dX7_bears_131 ?_
                  refine lv_eq ((m2_nk (by decide)).trans (hfe)) ?_
                  refine lv_iconst (v := nI 1) hx hb dX7_bears_132 (by decide) ?_
                  refine nv_iadd hx hb dX7_bears_133 ?_
                  refine rs_4 F hK hR (by omega) dX7_bears_134 (fun H locs hR => ?_)
                  refine lv_aload_n hx hb dX7_bears_135 rfl (lv_at hl 2 rfl) ?_
                  refine rg_4 F hK hR dX7_bears_136 ?_
                  refine lv_iload_n hx hb dX7_bears_139 rfl (lv_at hl 3 rfl) ?_
                  refine ri_4 F hK hR (by omega) dX7_bears_140 ?_
                  refine lv_eq (m2_at) ?_
                  exact gr_i F hr hlk hK hR dX7_bears_141 (by rw [sp_bearsR, if_pos hE, nI_clamp (n := x) (by omega), hfe, nI_clamp (n := k) (by omega)]) (by rw [sp_bearsS, if_pos hE, nI_clamp (n := x) (by omega), hfe, nI_clamp (n := k) (by omega)])
                · have hE : sp_bearsE S (nI x) (nI y) = -5 := by unfold sp_bearsE; rw [nI_clamp (n := x) (by omega), nI_clamp (n := y) (by omega), hfe, nI_clamp (n := k) (by omega)]; repeat (first | rw [if_pos c_5] | rw [if_neg c_5] | rw [if_neg (not_not_intro c_5)] | rw [if_pos c_13] | rw [if_neg c_13] | rw [if_neg (not_not_intro c_13)] | rw [if_pos c_32] | rw [if_neg c_32] | rw [if_neg (not_not_intro c_32)] | rw [if_pos c_72] | rw [if_neg c_72] | rw [if_neg (not_not_intro c_72)] | rw [if_pos c_77] | rw [if_neg c_77] | rw [if_neg (not_not_intro c_77)] | rw [if_pos n_77] | rw [if_neg n_77] | rw [if_neg (not_not_intro n_77)] | rw [if_pos c_81] | rw [if_neg c_81] | rw [if_neg (not_not_intro c_81)] | rw [if_pos c_90] | rw [if_neg c_90] | rw [if_neg (not_not_intro c_90)] | rw [if_pos c_103] | rw [if_neg c_103] | rw [if_neg (not_not_intro c_103)])
                  refine lv_bipush (v := (-5)) hx hb dX7_bears_106 (by decide) ?_
                  exact gr_i F hr hlk hK hR dX7_bears_108 (by rw [sp_bearsR, if_neg (by rw [hE]; decide), hE]) (by rw [sp_bearsS, if_neg (by rw [hE]; decide)])
              · have hE : sp_bearsE S (nI x) (nI y) = -4 := by unfold sp_bearsE; rw [nI_clamp (n := x) (by omega), nI_clamp (n := y) (by omega), hfe, nI_clamp (n := k) (by omega)]; repeat (first | rw [if_pos c_5] | rw [if_neg c_5] | rw [if_neg (not_not_intro c_5)] | rw [if_pos c_13] | rw [if_neg c_13] | rw [if_neg (not_not_intro c_13)] | rw [if_pos c_32] | rw [if_neg c_32] | rw [if_neg (not_not_intro c_32)] | rw [if_pos c_72] | rw [if_neg c_72] | rw [if_neg (not_not_intro c_72)] | rw [if_pos c_77] | rw [if_neg c_77] | rw [if_neg (not_not_intro c_77)] | rw [if_pos n_77] | rw [if_neg n_77] | rw [if_neg (not_not_intro n_77)] | rw [if_pos c_81] | rw [if_neg c_81] | rw [if_neg (not_not_intro c_81)] | rw [if_pos c_90] | rw [if_neg c_90] | rw [if_neg (not_not_intro c_90)])
                refine lv_bipush (v := (-4)) hx hb dX7_bears_93 (by decide) ?_
                exact gr_i F hr hlk hK hR dX7_bears_95 (by rw [sp_bearsR, if_neg (by rw [hE]; decide), hE]) (by rw [sp_bearsS, if_neg (by rw [hE]; decide)])
      | succ d ih =>
        refine lv_iload hx hb dX7_bears_24 (lv_at hl 0 rfl) ?_
        refine lv_aload_n hx hb dX7_bears_26 rfl (lv_at hl 2 rfl) ?_
        refine rg_4 F hK hR dX7_bears_27 ?_
        refine lv_iload_n hx hb dX7_bears_30 rfl (lv_at hl 3 rfl) ?_
        refine ri_4 F hK hR (by omega) dX7_bears_31 ?_
        refine lv_eq (hfe) ?_
        refine nv_icmp_ge (by omega) (by omega) hx hb dX7_bears_32 (tgt := 66) (by decide) (fun c_32 => absurd c_32 (by omega)) (fun c_32 => ?_)
        refine lv_iload_n hx hb dX7_bears_35 rfl (lv_at hl 1 rfl) ?_
        refine lv_if_ne (tgt := 54) hx hb dX7_bears_36 (by decide) (fun c_36 => ?_) (fun c_36 => ?_)
        · refine lv_iconst (v := nI 1) hx hb dX7_bears_54 (by decide) ?_
          refine lv_goto (tgt := 59) hx hb dX7_bears_55 (by decide) ?_
          refine lv_istore_n (lv' := [(3, .int (nI 1)), (4, .int (nI k)), (0, .ref (adr 0)), (1, .int (nI x)), (2, .int (nI y))]) hx hb dX7_bears_59 rfl hl (by decide) rfl (fun ls hl => ?_)
          refine lv_iinc (v := nI (k + 1)) (lv' := [(4, .int (nI (k + 1))), (3, .int (nI 1)), (0, .ref (adr 0)), (1, .int (nI x)), (2, .int (nI y))]) hx hb dX7_bears_60 hl (k := 1) rfl (nI_add _ _) (by decide) rfl (fun ls hl => ?_)
          refine lv_goto (tgt := 24) hx hb dX7_bears_63 (by decide) ?_
          have q : nI 1 = sp_isin S x y (k + 1) := by rw [sp_isin]; repeat (first | rw [if_pos c_5] | rw [if_neg c_5] | rw [if_neg (not_not_intro c_5)] | rw [if_pos c_13] | rw [if_neg c_13] | rw [if_neg (not_not_intro c_13)] | rw [if_pos c_32] | rw [if_neg c_32] | rw [if_neg (not_not_intro c_32)] | rw [if_pos c_36] | rw [if_neg c_36] | rw [if_neg (not_not_intro c_36)])
          exact ih _ _ (by rw [← q]; exact lv_sub hl [0, 1, 2, 3, 4] rfl) (by omega) (by omega)
        · refine lv_aload_n hx hb dX7_bears_39 rfl (lv_at hl 2 rfl) ?_
          refine rg_5 F hK hR dX7_bears_40 ?_
          refine lv_iconst (v := nI 3) hx hb dX7_bears_43 (by decide) ?_
          refine lv_iload_n hx hb dX7_bears_44 rfl (lv_at hl 3 rfl) ?_
          refine nv_imul hx hb dX7_bears_45 ?_
          refine lv_iload hx hb dX7_bears_46 (lv_at hl 0 rfl) ?_
          refine nv_iadd hx hb dX7_bears_48 ?_
          refine ri_5 F hK hR (by omega) dX7_bears_49 ?_
          refine lv_iload_n hx hb dX7_bears_50 rfl (lv_at hl 4 rfl) ?_
          refine lv_icmp_ne (tgt := 58) hx hb dX7_bears_51 (by decide) (fun c_51 => ?_) (fun c_51 => ?_)
          · refine lv_iconst (v := nI 0) hx hb dX7_bears_58 (by decide) ?_
            refine lv_istore_n (lv' := [(3, .int (nI 0)), (4, .int (nI k)), (0, .ref (adr 0)), (1, .int (nI x)), (2, .int (nI y))]) hx hb dX7_bears_59 rfl hl (by decide) rfl (fun ls hl => ?_)
            refine lv_iinc (v := nI (k + 1)) (lv' := [(4, .int (nI (k + 1))), (3, .int (nI 0)), (0, .ref (adr 0)), (1, .int (nI x)), (2, .int (nI y))]) hx hb dX7_bears_60 hl (k := 1) rfl (nI_add _ _) (by decide) rfl (fun ls hl => ?_)
            refine lv_goto (tgt := 24) hx hb dX7_bears_63 (by decide) ?_
            have q : nI 0 = sp_isin S x y (k + 1) := by rw [sp_isin]; repeat (first | rw [if_pos c_5] | rw [if_neg c_5] | rw [if_neg (not_not_intro c_5)] | rw [if_pos c_13] | rw [if_neg c_13] | rw [if_neg (not_not_intro c_13)] | rw [if_pos c_32] | rw [if_neg c_32] | rw [if_neg (not_not_intro c_32)] | rw [if_pos c_36] | rw [if_neg c_36] | rw [if_neg (not_not_intro c_36)] | rw [if_pos c_51] | rw [if_neg c_51] | rw [if_neg (not_not_intro c_51)])
            exact ih _ _ (by rw [← q]; exact lv_sub hl [0, 1, 2, 3, 4] rfl) (by omega) (by omega)
          · refine lv_iconst (v := nI 1) hx hb dX7_bears_54 (by decide) ?_
            refine lv_goto (tgt := 59) hx hb dX7_bears_55 (by decide) ?_
            refine lv_istore_n (lv' := [(3, .int (nI 1)), (4, .int (nI k)), (0, .ref (adr 0)), (1, .int (nI x)), (2, .int (nI y))]) hx hb dX7_bears_59 rfl hl (by decide) rfl (fun ls hl => ?_)
            refine lv_iinc (v := nI (k + 1)) (lv' := [(4, .int (nI (k + 1))), (3, .int (nI 1)), (0, .ref (adr 0)), (1, .int (nI x)), (2, .int (nI y))]) hx hb dX7_bears_60 hl (k := 1) rfl (nI_add _ _) (by decide) rfl (fun ls hl => ?_)
            refine lv_goto (tgt := 24) hx hb dX7_bears_63 (by decide) ?_
            have q : nI 1 = sp_isin S x y (k + 1) := by rw [sp_isin]; repeat (first | rw [if_pos c_5] | rw [if_neg c_5] | rw [if_neg (not_not_intro c_5)] | rw [if_pos c_13] | rw [if_neg c_13] | rw [if_neg (not_not_intro c_13)] | rw [if_pos c_32] | rw [if_neg c_32] | rw [if_neg (not_not_intro c_32)] | rw [if_pos c_36] | rw [if_neg c_36] | rw [if_neg (not_not_intro c_36)] | rw [if_pos c_51] | rw [if_neg c_51] | rw [if_neg (not_not_intro c_51)])
            exact ih _ _ (by rw [← q]; exact lv_sub hl [0, 1, 2, 3, 4] rfl) (by omega) (by omega)
    · have hE : sp_bearsE S (nI x) x1 = -2 := by unfold sp_bearsE; repeat (first | rw [if_pos c_5] | rw [if_neg c_5] | rw [if_neg (not_not_intro c_5)] | rw [if_pos c_13] | rw [if_neg c_13] | rw [if_neg (not_not_intro c_13)])
      refine lv_bipush (v := (-2)) hx hb dX7_bears_16 (by decide) ?_
      exact gr_i F hr hlk hK hR dX7_bears_18 (by rw [sp_bearsR, if_neg (by rw [hE]; decide), hE]) (by rw [sp_bearsS, if_neg (by rw [hE]; decide)])
