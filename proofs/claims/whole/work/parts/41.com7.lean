/-! THE CLASS, 7: perform, work, execute -/
theorem so_all {so : Nat} (h : so ≤ 12) : so = 0 ∨ so = 1 ∨ so = 2 ∨ so = 3 ∨ so = 4 ∨ so = 5 ∨ so = 6 ∨ so = 7 ∨ so = 8 ∨ so = 9 ∨ so = 10 ∨ so = 11 ∨ so = 12 := by omega
set_option maxHeartbeats 4000000 in
set_option maxRecDepth 100000 in
theorem st_perform {l : Launch} {G : gw_G} {A : Nat → Prop} {adr : Nat → Nat} {n : Nat} {L : Int64} {k : Nat} (hA : cmAll l G A adr n L k) : cmP l G A adr n L (k + 1) := by
  intro S Y x q i d hs hd hxn hq hi hd8 hm
  refine gm_of (own := RX3) (by decide) rfl (Nat.le_of_ble_eq_true rfl) ?_
  intro p e s m below meth c ls F hml hr hlk hnm hK hR hl
  have hx := F.1
  have hb := F.2.1
  obtain ⟨hev, he⟩ := hd.ev
  have hn12 := hs.1
  replace hl : lv_has ls 4 [(0, .ref (adr 2)), (1, .ref (adr (nk x 0))), (2, .ref (adr (nk x (14 + 10 * q + i)))), (3, .int (nI d))] := hl
  have hok := sI_act hs hxn hq hi
  obtain ⟨so, hso12, hso, hv⟩ := act_so hok
  have e0 : (S 11 (aT x q i)).toNatClampNeg = so := by rw [hso, nI_clamp (by omega)]
  replace hso : S 11 (40 * (4 * x + q) + 4 * i) = nI so := hso
  obtain ⟨ac, hac, hi2, h10⟩ : ∃ ac, S 10 (4 * x + q) = nI ac ∧ i < ac ∧ ac ≤ 10 := ⟨_, (sI_ac hs (by omega)).2, hi, (sI_ac hs (by omega)).1⟩
  refine lv_aload_n hx hb dX3_perform_0 rfl (lv_at hl 2 rfl) ?_
  refine ag_0 F hK hR (by omega) (by omega) (hac) (by omega) (by omega) fl_X3_117 dX3_perform_1 ?_
  refine lv_eq (hso) ?_
  rcases (so_all hso12 : so = 0 ∨ so = 1 ∨ so = 2 ∨ so = 3 ∨ so = 4 ∨ so = 5 ∨ so = 6 ∨ so = 7 ∨ so = 8 ∨ so = 9 ∨ so = 10 ∨ so = 11 ∨ so = 12) with rfl | rfl | rfl | rfl | rfl | rfl | rfl | rfl | rfl | rfl | rfl | rfl | rfl
  · refine lv_tableIn (x := nI 0) (tgt := 72) hx hb dX3_perform_4 (by decide) (by decide) (off := 68) (by decide) (by decide) ?_
    obtain ⟨fa, hfa, hfe⟩ := are_f1 hv (by omega)
    have e1 : (S 11 (aT x q i + 1)).toNatClampNeg = fa := by rw [show S 11 (aT x q i + 1) = nI fa from hfe, nI_clamp (by omega)]
    refine lv_aload_n hx hb dX3_perform_72 rfl (lv_at hl 1 rfl) ?_
    refine lv_aload_n hx hb dX3_perform_73 rfl (lv_at hl 2 rfl) ?_
    refine ag_2 F hK hR (by omega) (by omega) (hac) (by omega) (by omega) fl_X3_120 dX3_perform_74 ?_
    refine lv_eq (hfe) ?_
    refine lv_aload_n hx hb dX3_perform_77 rfl (lv_at hl 2 rfl) ?_
    refine ag_3 F hK hR (by omega) (by omega) (hac) (by omega) (by omega) fl_X3_123 dX3_perform_78 ?_
    refine gcVv (As := [.int (nI fa), .int (S 11 (40 * (4 * x + q) + 4 * i + 2))]) F hK hR hml cv_X3_126 (o := nk x 0) (ccel_k (by omega) (by decide)) rfl rfl (c_X2_change l G A adr n S Y L x fa (S 11 (40 * (4 * x + q) + 4 * i + 2)) (by omega) (by omega)) ⟨rfl, rfl⟩ ⟨by dsimp only [rmL]; omega, by dsimp only [rmL]; omega⟩ rfl rfl hl.1 (Nat.le_of_ble_eq_true rfl) dX3_perform_81 ⟨Nat.zero_le _, Nat.zero_le _⟩ (fun H locs hR => ?_)
    refine lv_iconst (v := (-1)) hx hb dX3_perform_84 (by decide) ?_
    exact gr_i F hr hlk hK hR dX3_perform_85 (by rw [ev5]; dsimp only; rw [e0, if_neg (show ¬ (0 : Nat) = 7 by decide), if_neg (show ¬ (0 : Nat) = 11 by decide)]; rfl) (by rw [ev5]; dsimp only; rw [e0, if_neg (show ¬ (0 : Nat) = 7 by decide), if_neg (show ¬ (0 : Nat) = 11 by decide)]; simp only [sp_doS]; rw [e1]; rfl)
  · refine lv_tableIn (x := nI 1) (tgt := 86) hx hb dX3_perform_4 (by decide) (by decide) (off := 82) (by decide) (by decide) ?_
    obtain ⟨fa, hfa, hfe⟩ := are_f1 hv (by omega)
    have e1 : (S 11 (aT x q i + 1)).toNatClampNeg = fa := by rw [show S 11 (aT x q i + 1) = nI fa from hfe, nI_clamp (by omega)]
    obtain ⟨g, hg, hgg⟩ := are_f3 hv (by omega) (by omega)
    obtain ⟨z, hz, hze⟩ := act_z3 hok hso (by omega) (by omega) (by omega)
    have hoth : oth (S 11) x (40 * (4 * x + q) + 4 * i) = z := oth_3 hso (by omega) (by omega) hze (by omega)
    have e2 : (S 11 (aT x q i + 2)).toNatClampNeg = z := by rw [show S 11 (aT x q i + 2) = nI z from hze, nI_clamp (by omega)]
    have e3 : (S 11 (aT x q i + 3)).toNatClampNeg = g := by rw [show S 11 (aT x q i + 3) = nI g from hgg, nI_clamp (by omega)]
    refine lv_aload_n hx hb dX3_perform_86 rfl (lv_at hl 1 rfl) ?_
    refine lv_aload_n hx hb dX3_perform_87 rfl (lv_at hl 2 rfl) ?_
    refine ag_2 F hK hR (by omega) (by omega) (hac) (by omega) (by omega) fl_X3_120 dX3_perform_88 ?_
    refine lv_eq (hfe) ?_
    refine lv_aload_n hx hb dX3_perform_91 rfl (lv_at hl 1 rfl) ?_
    refine lv_aload_n hx hb dX3_perform_92 rfl (lv_at hl 2 rfl) ?_
    refine ag_2 F hK hR (by omega) (by omega) (hac) (by omega) (by omega) fl_X3_120 dX3_perform_93 ?_
    refine lv_eq (hfe) ?_
    refine gcVi (As := [.int (nI fa)]) F hK hR hml cv_X3_129 (o := nk x 0) (ccel_k (by omega) (by decide)) rfl rfl (c_X2_valueOf l G A adr n S Y L x fa (by omega) (by omega)) ⟨rfl, rfl⟩ ⟨by dsimp only [rmL]; omega, by dsimp only [rmL]; omega⟩ rfl rfl hl.1 (Nat.le_of_ble_eq_true rfl) dX3_perform_96 ⟨Nat.zero_le _, Nat.zero_le _⟩ (fun H locs hR => ?_)
    refine lv_aload_n hx hb dX3_perform_99 rfl (lv_at hl 0 rfl) ?_
    refine lv_aload_n hx hb dX3_perform_100 rfl (lv_at hl 1 rfl) ?_
    refine lv_aload_n hx hb dX3_perform_101 rfl (lv_at hl 2 rfl) ?_
    refine gcVi (As := [.ref (adr (nk x 0)), .ref (adr (nk x (14 + 10 * q + i)))]) F hK hR hml cv_X3_132 (o := 2) (rfl) rfl rfl (c_X3_readOther l G A adr n S Y L x q i ac z g hxn hq hac hi2 h10 hoth hz hgg hg) ⟨rfl, rfl⟩ ⟨by dsimp only [rmL]; omega, by dsimp only [rmL]; omega⟩ rfl rfl hl.1 (Nat.le_of_ble_eq_true rfl) dX3_perform_102 ⟨Nat.zero_le _, Nat.zero_le _⟩ (fun H locs hR => ?_)
    refine lv_iadd hx hb dX3_perform_105 ?_
    refine gcVv (As := [.int (nI fa), .int ((sp_get S x fa) + (sp_get (sp_half S x z g) z g))]) F hK hR hml cv_X3_126 (o := nk x 0) (ccel_k (by omega) (by decide)) rfl rfl (c_X2_change l G A adr n (sp_half S x z g) Y L x fa ((sp_get S x fa) + (sp_get (sp_half S x z g) z g)) (by omega) (by omega)) ⟨rfl, rfl⟩ ⟨by dsimp only [rmL]; omega, by dsimp only [rmL]; omega⟩ rfl rfl hl.1 (Nat.le_of_ble_eq_true rfl) dX3_perform_106 ⟨Nat.zero_le _, Nat.zero_le _⟩ (fun H locs hR => ?_)
    refine lv_iconst (v := (-1)) hx hb dX3_perform_109 (by decide) ?_
    exact gr_i F hr hlk hK hR dX3_perform_110 (by rw [ev5]; dsimp only; rw [e0, if_neg (show ¬ (1 : Nat) = 7 by decide), if_neg (show ¬ (1 : Nat) = 11 by decide)]; rfl) (by rw [ev5]; dsimp only; rw [e0, if_neg (show ¬ (1 : Nat) = 7 by decide), if_neg (show ¬ (1 : Nat) = 11 by decide)]; simp only [sp_doS]; rw [e1, e2, e3]; unfold sp_addS sp_get; rw [half_ne (show 6 ≠ 16 by decide)])
  · refine lv_tableIn (x := nI 2) (tgt := 111) hx hb dX3_perform_4 (by decide) (by decide) (off := 107) (by decide) (by decide) ?_
    obtain ⟨fa, hfa, hfe⟩ := are_f1 hv (by omega)
    have e1 : (S 11 (aT x q i + 1)).toNatClampNeg = fa := by rw [show S 11 (aT x q i + 1) = nI fa from hfe, nI_clamp (by omega)]
    obtain ⟨g, hg, hgg⟩ := are_f3 hv (by omega) (by omega)
    obtain ⟨z, hz, hze⟩ := act_z3 hok hso (by omega) (by omega) (by omega)
    have hoth : oth (S 11) x (40 * (4 * x + q) + 4 * i) = z := oth_3 hso (by omega) (by omega) hze (by omega)
    have e2 : (S 11 (aT x q i + 2)).toNatClampNeg = z := by rw [show S 11 (aT x q i + 2) = nI z from hze, nI_clamp (by omega)]
    have e3 : (S 11 (aT x q i + 3)).toNatClampNeg = g := by rw [show S 11 (aT x q i + 3) = nI g from hgg, nI_clamp (by omega)]
    refine lv_aload_n hx hb dX3_perform_111 rfl (lv_at hl 2 rfl) ?_
    refine ag_1 F hK hR (by omega) (by omega) (hac) (by omega) (by omega) fl_X3_111 dX3_perform_112 ?_
    rw [hoth]
    refine lv_aload_n hx hb dX3_perform_115 rfl (lv_at hl 2 rfl) ?_
    refine ag_4 F hK hR (by omega) (by omega) (hac) (by omega) (by omega) fl_X3_136 dX3_perform_116 ?_
    refine lv_eq (hgg) ?_
    refine lv_aload_n hx hb dX3_perform_119 rfl (lv_at hl 1 rfl) ?_
    refine lv_aload_n hx hb dX3_perform_120 rfl (lv_at hl 2 rfl) ?_
    refine ag_2 F hK hR (by omega) (by omega) (hac) (by omega) (by omega) fl_X3_120 dX3_perform_121 ?_
    refine lv_eq (hfe) ?_
    refine gcVi (As := [.int (nI fa)]) F hK hR hml cv_X3_129 (o := nk x 0) (ccel_k (by omega) (by decide)) rfl rfl (c_X2_valueOf l G A adr n S Y L x fa (by omega) (by omega)) ⟨rfl, rfl⟩ ⟨by dsimp only [rmL]; omega, by dsimp only [rmL]; omega⟩ rfl rfl hl.1 (Nat.le_of_ble_eq_true rfl) dX3_perform_124 ⟨Nat.zero_le _, Nat.zero_le _⟩ (fun H locs hR => ?_)
    refine gcVv (As := [.int (nI g), .int (sp_get S x fa)]) F hK hR hml cv_X3_126 (o := nk z 0) (ccel_k (by omega) (by decide)) rfl rfl (c_X2_change l G A adr n S Y L z g (sp_get S x fa) (by omega) (by omega)) ⟨rfl, rfl⟩ ⟨by dsimp only [rmL]; omega, by dsimp only [rmL]; omega⟩ rfl rfl hl.1 (Nat.le_of_ble_eq_true rfl) dX3_perform_127 ⟨Nat.zero_le _, Nat.zero_le _⟩ (fun H locs hR => ?_)
    refine lv_iconst (v := (-1)) hx hb dX3_perform_130 (by decide) ?_
    exact gr_i F hr hlk hK hR dX3_perform_131 (by rw [ev5]; dsimp only; rw [e0, if_neg (show ¬ (2 : Nat) = 7 by decide), if_neg (show ¬ (2 : Nat) = 11 by decide)]; rfl) (by rw [ev5]; dsimp only; rw [e0, if_neg (show ¬ (2 : Nat) = 7 by decide), if_neg (show ¬ (2 : Nat) = 11 by decide)]; simp only [sp_doS]; rw [e1, e2, e3]; rfl)
  · refine lv_tableIn (x := nI 3) (tgt := 132) hx hb dX3_perform_4 (by decide) (by decide) (off := 128) (by decide) (by decide) ?_
    obtain ⟨fa, hfa, hfe⟩ := are_f1 hv (by omega)
    have e1 : (S 11 (aT x q i + 1)).toNatClampNeg = fa := by rw [show S 11 (aT x q i + 1) = nI fa from hfe, nI_clamp (by omega)]
    obtain ⟨g, hg, hgg⟩ := are_f3 hv (by omega) (by omega)
    obtain ⟨z, hz, hze⟩ := act_z3 hok hso (by omega) (by omega) (by omega)
    have hoth : oth (S 11) x (40 * (4 * x + q) + 4 * i) = z := oth_3 hso (by omega) (by omega) hze (by omega)
    have e2 : (S 11 (aT x q i + 2)).toNatClampNeg = z := by rw [show S 11 (aT x q i + 2) = nI z from hze, nI_clamp (by omega)]
    have e3 : (S 11 (aT x q i + 3)).toNatClampNeg = g := by rw [show S 11 (aT x q i + 3) = nI g from hgg, nI_clamp (by omega)]
    refine lv_aload_n hx hb dX3_perform_132 rfl (lv_at hl 0 rfl) ?_
    refine lv_aload_n hx hb dX3_perform_133 rfl (lv_at hl 1 rfl) ?_
    refine lv_aload_n hx hb dX3_perform_134 rfl (lv_at hl 2 rfl) ?_
    refine ag_2 F hK hR (by omega) (by omega) (hac) (by omega) (by omega) fl_X3_120 dX3_perform_135 ?_
    refine lv_eq (hfe) ?_
    refine lv_aload_n hx hb dX3_perform_138 rfl (lv_at hl 0 rfl) ?_
    refine lv_aload_n hx hb dX3_perform_139 rfl (lv_at hl 1 rfl) ?_
    refine lv_aload_n hx hb dX3_perform_140 rfl (lv_at hl 2 rfl) ?_
    refine gcVi (As := [.ref (adr (nk x 0)), .ref (adr (nk x (14 + 10 * q + i)))]) F hK hR hml cv_X3_132 (o := 2) (rfl) rfl rfl (c_X3_readOther l G A adr n S Y L x q i ac z g hxn hq hac hi2 h10 hoth hz hgg hg) ⟨rfl, rfl⟩ ⟨by dsimp only [rmL]; omega, by dsimp only [rmL]; omega⟩ rfl rfl hl.1 (Nat.le_of_ble_eq_true rfl) dX3_perform_141 ⟨Nat.zero_le _, Nat.zero_le _⟩ (fun H locs hR => ?_)
    refine gcVi (As := [.ref (adr (nk x 0)), .int (nI fa), .int (sp_get (sp_half S x z g) z g)]) F hK hR hml cv_X3_139 (o := 2) (rfl) rfl rfl (c_X3_divide l G A adr n (sp_half S x z g) Y L x fa (sp_get (sp_half S x z g) z g) hxn hfa) ⟨rfl, rfl⟩ ⟨by dsimp only [rmL]; omega, by dsimp only [rmL]; omega⟩ rfl rfl hl.1 (Nat.le_of_ble_eq_true rfl) dX3_perform_144 ⟨Nat.zero_le _, Nat.zero_le _⟩ (fun H locs hR => ?_)
    exact gr_i F hr hlk hK hR dX3_perform_147 (by rw [ev5]; dsimp only; rw [e0, if_neg (show ¬ (3 : Nat) = 7 by decide), if_neg (show ¬ (3 : Nat) = 11 by decide)]; simp only [sp_doR]; rw [e2, e3]; rfl) (by rw [ev5]; dsimp only; rw [e0, if_neg (show ¬ (3 : Nat) = 7 by decide), if_neg (show ¬ (3 : Nat) = 11 by decide)]; simp only [sp_doS]; rw [e1, e2, e3]; rfl)
  · refine lv_tableIn (x := nI 4) (tgt := 148) hx hb dX3_perform_4 (by decide) (by decide) (off := 144) (by decide) (by decide) ?_
    obtain ⟨fa, hfa, hfe⟩ := are_f1 hv (by omega)
    have e1 : (S 11 (aT x q i + 1)).toNatClampNeg = fa := by rw [show S 11 (aT x q i + 1) = nI fa from hfe, nI_clamp (by omega)]
    refine lv_aload_n hx hb dX3_perform_148 rfl (lv_at hl 0 rfl) ?_
    refine lv_aload_n hx hb dX3_perform_149 rfl (lv_at hl 1 rfl) ?_
    refine lv_aload_n hx hb dX3_perform_150 rfl (lv_at hl 1 rfl) ?_
    refine lv_aload_n hx hb dX3_perform_151 rfl (lv_at hl 2 rfl) ?_
    refine ag_2 F hK hR (by omega) (by omega) (hac) (by omega) (by omega) fl_X3_120 dX3_perform_152 ?_
    refine lv_eq (hfe) ?_
    refine gcVi (As := [.int (nI fa)]) F hK hR hml cv_X3_129 (o := nk x 0) (ccel_k (by omega) (by decide)) rfl rfl (c_X2_valueOf l G A adr n S Y L x fa (by omega) (by omega)) ⟨rfl, rfl⟩ ⟨by dsimp only [rmL]; omega, by dsimp only [rmL]; omega⟩ rfl rfl hl.1 (Nat.le_of_ble_eq_true rfl) dX3_perform_155 ⟨Nat.zero_le _, Nat.zero_le _⟩ (fun H locs hR => ?_)
    refine gcVi (As := [.ref (adr (nk x 0)), .int (sp_get S x fa)]) F hK hR hml cv_X3_142 (o := 2) (rfl) rfl rfl (c_X3_makeRow l G A adr n S Y L x (sp_get S x fa) hxn) ⟨rfl, rfl⟩ ⟨by dsimp only [rmL]; omega, by dsimp only [rmL]; omega⟩ rfl rfl hl.1 (Nat.le_of_ble_eq_true rfl) dX3_perform_158 ⟨Nat.zero_le _, Nat.zero_le _⟩ (fun H locs hR => ?_)
    exact gr_i F hr hlk hK hR dX3_perform_161 (by rw [ev5]; dsimp only; rw [e0, if_neg (show ¬ (4 : Nat) = 7 by decide), if_neg (show ¬ (4 : Nat) = 11 by decide)]; simp only [sp_doR]; rw [e1]) (by rw [ev5]; dsimp only; rw [e0, if_neg (show ¬ (4 : Nat) = 7 by decide), if_neg (show ¬ (4 : Nat) = 11 by decide)]; simp only [sp_doS]; rw [e1])
  · refine lv_tableIn (x := nI 5) (tgt := 162) hx hb dX3_perform_4 (by decide) (by decide) (off := 158) (by decide) (by decide) ?_
    obtain ⟨fa, hfa, hfe⟩ := are_f1 hv (by omega)
    have e1 : (S 11 (aT x q i + 1)).toNatClampNeg = fa := by rw [show S 11 (aT x q i + 1) = nI fa from hfe, nI_clamp (by omega)]
    obtain ⟨fb, hfb, hge⟩ := are_f2 hv (by omega)
    have e2 : (S 11 (aT x q i + 2)).toNatClampNeg = fb := by rw [show S 11 (aT x q i + 2) = nI fb from hge, nI_clamp (by omega)]
    refine lv_aload_n hx hb dX3_perform_162 rfl (lv_at hl 0 rfl) ?_
    refine lv_aload_n hx hb dX3_perform_163 rfl (lv_at hl 1 rfl) ?_
    refine lv_aload_n hx hb dX3_perform_164 rfl (lv_at hl 1 rfl) ?_
    refine lv_aload_n hx hb dX3_perform_165 rfl (lv_at hl 2 rfl) ?_
    refine ag_2 F hK hR (by omega) (by omega) (hac) (by omega) (by omega) fl_X3_120 dX3_perform_166 ?_
    refine lv_eq (hfe) ?_
    refine gcVi (As := [.int (nI fa)]) F hK hR hml cv_X3_129 (o := nk x 0) (ccel_k (by omega) (by decide)) rfl rfl (c_X2_valueOf l G A adr n S Y L x fa (by omega) (by omega)) ⟨rfl, rfl⟩ ⟨by dsimp only [rmL]; omega, by dsimp only [rmL]; omega⟩ rfl rfl hl.1 (Nat.le_of_ble_eq_true rfl) dX3_perform_169 ⟨Nat.zero_le _, Nat.zero_le _⟩ (fun H locs hR => ?_)
    refine lv_aload_n hx hb dX3_perform_172 rfl (lv_at hl 1 rfl) ?_
    refine lv_aload_n hx hb dX3_perform_173 rfl (lv_at hl 2 rfl) ?_
    refine ag_3 F hK hR (by omega) (by omega) (hac) (by omega) (by omega) fl_X3_123 dX3_perform_174 ?_
    refine lv_eq (hge) ?_
    refine gcVi (As := [.int (nI fb)]) F hK hR hml cv_X3_129 (o := nk x 0) (ccel_k (by omega) (by decide)) rfl rfl (c_X2_valueOf l G A adr n S Y L x fb (by omega) (by omega)) ⟨rfl, rfl⟩ ⟨by dsimp only [rmL]; omega, by dsimp only [rmL]; omega⟩ rfl rfl hl.1 (Nat.le_of_ble_eq_true rfl) dX3_perform_177 ⟨Nat.zero_le _, Nat.zero_le _⟩ (fun H locs hR => ?_)
    refine gcVi (As := [.ref (adr (nk x 0)), .int (sp_get S x fa), .int (sp_get S x fb)]) F hK hR hml cv_X3_145 (o := 2) (rfl) rfl rfl (c_X3_putItem l G A adr n S Y L x (sp_get S x fa) (sp_get S x fb) hxn hd.2.2.1 hn12) ⟨rfl, rfl⟩ ⟨by dsimp only [rmL]; omega, by dsimp only [rmL]; omega⟩ rfl rfl hl.1 (Nat.le_of_ble_eq_true rfl) dX3_perform_180 ⟨Nat.zero_le _, Nat.zero_le _⟩ (fun H locs hR => ?_)
    exact gr_i F hr hlk hK hR dX3_perform_183 (by rw [ev5]; dsimp only; rw [e0, if_neg (show ¬ (5 : Nat) = 7 by decide), if_neg (show ¬ (5 : Nat) = 11 by decide)]; simp only [sp_doR]; rw [e1]; rfl) (by rw [ev5]; dsimp only; rw [e0, if_neg (show ¬ (5 : Nat) = 7 by decide), if_neg (show ¬ (5 : Nat) = 11 by decide)]; simp only [sp_doS]; rw [e1, e2]; rfl)
  · refine lv_tableIn (x := nI 6) (tgt := 184) hx hb dX3_perform_4 (by decide) (by decide) (off := 180) (by decide) (by decide) ?_
    obtain ⟨fa, hfa, hfe⟩ := are_f1 hv (by omega)
    have e1 : (S 11 (aT x q i + 1)).toNatClampNeg = fa := by rw [show S 11 (aT x q i + 1) = nI fa from hfe, nI_clamp (by omega)]
    obtain ⟨fb, hfb, hge⟩ := are_f2 hv (by omega)
    have e2 : (S 11 (aT x q i + 2)).toNatClampNeg = fb := by rw [show S 11 (aT x q i + 2) = nI fb from hge, nI_clamp (by omega)]
    refine lv_aload_n hx hb dX3_perform_184 rfl (lv_at hl 0 rfl) ?_
    refine lv_aload_n hx hb dX3_perform_185 rfl (lv_at hl 1 rfl) ?_
    refine lv_aload_n hx hb dX3_perform_186 rfl (lv_at hl 2 rfl) ?_
    refine ag_2 F hK hR (by omega) (by omega) (hac) (by omega) (by omega) fl_X3_120 dX3_perform_187 ?_
    refine lv_eq (hfe) ?_
    refine lv_aload_n hx hb dX3_perform_190 rfl (lv_at hl 1 rfl) ?_
    refine lv_aload_n hx hb dX3_perform_191 rfl (lv_at hl 2 rfl) ?_
    refine ag_3 F hK hR (by omega) (by omega) (hac) (by omega) (by omega) fl_X3_123 dX3_perform_192 ?_
    refine lv_eq (hge) ?_
    refine gcVi (As := [.int (nI fb)]) F hK hR hml cv_X3_129 (o := nk x 0) (ccel_k (by omega) (by decide)) rfl rfl (c_X2_valueOf l G A adr n S Y L x fb (by omega) (by omega)) ⟨rfl, rfl⟩ ⟨by dsimp only [rmL]; omega, by dsimp only [rmL]; omega⟩ rfl rfl hl.1 (Nat.le_of_ble_eq_true rfl) dX3_perform_195 ⟨Nat.zero_le _, Nat.zero_le _⟩ (fun H locs hR => ?_)
    refine gcVi (As := [.ref (adr (nk x 0)), .int (nI fa), .int (sp_get S x fb)]) F hK hR hml cv_X3_148 (o := 2) (rfl) rfl rfl (c_X3_takeItem l G A adr n S Y L x fa (sp_get S x fb) hxn hfa hd.2.2.1 hn12) ⟨rfl, rfl⟩ ⟨by dsimp only [rmL]; omega, by dsimp only [rmL]; omega⟩ rfl rfl hl.1 (Nat.le_of_ble_eq_true rfl) dX3_perform_198 ⟨Nat.zero_le _, Nat.zero_le _⟩ (fun H locs hR => ?_)
    exact gr_i F hr hlk hK hR dX3_perform_201 (by rw [ev5]; dsimp only; rw [e0, if_neg (show ¬ (6 : Nat) = 7 by decide), if_neg (show ¬ (6 : Nat) = 11 by decide)]; simp only [sp_doR]; rw [e2]; rfl) (by rw [ev5]; dsimp only; rw [e0, if_neg (show ¬ (6 : Nat) = 7 by decide), if_neg (show ¬ (6 : Nat) = 11 by decide)]; simp only [sp_doS]; rw [e1, e2]; rfl)
  · refine lv_tableIn (x := nI 7) (tgt := 202) hx hb dX3_perform_4 (by decide) (by decide) (off := 198) (by decide) (by decide) ?_
    obtain ⟨g, hg, hgg⟩ := are_7 hv
    obtain ⟨z, hz, hze⟩ := act_z7 hok hso (by omega) (by omega)
    have hoth : oth (S 11) x (40 * (4 * x + q) + 4 * i) = z := oth_7 hso (by omega) hze (by omega)
    have e1 : (S 11 (aT x q i + 1)).toNatClampNeg = z := by rw [show S 11 (aT x q i + 1) = nI z from hze, nI_clamp (by omega)]
    have e2 : (S 11 (aT x q i + 2)).toNatClampNeg = g := by rw [show S 11 (aT x q i + 2) = nI g from hgg, nI_clamp (by omega)]
    refine lv_aload_n hx hb dX3_perform_202 rfl (lv_at hl 0 rfl) ?_
    refine lv_aload_n hx hb dX3_perform_203 rfl (lv_at hl 2 rfl) ?_
    refine ag_1 F hK hR (by omega) (by omega) (hac) (by omega) (by omega) fl_X3_111 dX3_perform_204 ?_
    rw [hoth]
    refine lv_aload_n hx hb dX3_perform_207 rfl (lv_at hl 2 rfl) ?_
    refine ag_3 F hK hR (by omega) (by omega) (hac) (by omega) (by omega) fl_X3_123 dX3_perform_208 ?_
    refine lv_eq (hgg) ?_
    refine lv_iload_n hx hb dX3_perform_211 rfl (lv_at hl 3 rfl) ?_
    refine gcVi (As := [.ref (adr (nk z 0)), .int (nI g), .int (nI d)]) F hK hR hml cv_X3_151 (o := 2) (rfl) rfl rfl (hA.2.2.2.2.2.2 S Y z g d hs hd hz hg hd8 (by omega)) ⟨rfl, rfl⟩ ⟨by dsimp only [rmL]; omega, by dsimp only [rmL]; omega⟩ rfl rfl hl.1 (Nat.le_of_ble_eq_true rfl) dX3_perform_212 ⟨Nat.zero_le _, Nat.zero_le _⟩ (fun H locs hR => ?_)
    exact gr_i F hr hlk hK hR dX3_perform_215 (by rw [ev5]; dsimp only; rw [e0, if_pos rfl, e1, e2]) (by rw [ev5]; dsimp only; rw [e0, if_pos rfl, e1, e2])
  · refine lv_tableIn (x := nI 8) (tgt := 245) hx hb dX3_perform_4 (by decide) (by decide) (off := 241) (by decide) (by decide) ?_
    refine lv_iconst (v := (-1)) hx hb dX3_perform_245 (by decide) ?_
    exact gr_i F hr hlk hK hR dX3_perform_246 (by rw [ev5]; dsimp only; rw [e0, if_neg (show ¬ (8 : Nat) = 7 by decide), if_neg (show ¬ (8 : Nat) = 11 by decide)]; rfl) (by rw [ev5]; dsimp only; rw [e0, if_neg (show ¬ (8 : Nat) = 7 by decide), if_neg (show ¬ (8 : Nat) = 11 by decide)]; rfl)
  · refine lv_tableIn (x := nI 9) (tgt := 216) hx hb dX3_perform_4 (by decide) (by decide) (off := 212) (by decide) (by decide) ?_
    obtain ⟨ta, hta, hte⟩ := ar2_yes hv
    have hw10 : ¬ nI 10 ≤ S 11 (40 * (4 * x + q) + 4 * i + 1) := by show ¬ nI 10 ≤ S 11 (aT x q i + 1); rw [hte]; exact nI_ge (by omega) (by omega)
    refine lv_aload_n hx hb dX3_perform_216 rfl (lv_at hl 0 rfl) ?_
    refine lv_aload_n hx hb dX3_perform_217 rfl (lv_at hl 2 rfl) ?_
    refine ag_2 F hK hR (by omega) (by omega) (hac) (by omega) (by omega) fl_X3_120 dX3_perform_218 ?_
    refine gcVi (As := [.int (S 11 (40 * (4 * x + q) + 4 * i + 1))]) F hK hR hml cv_X3_41 (o := 2) (rfl) rfl rfl (c_X3_raise l G A adr n S Y L (S 11 (40 * (4 * x + q) + 4 * i + 1)) (hw10)) ⟨rfl, rfl⟩ ⟨by dsimp only [rmL]; omega, by dsimp only [rmL]; omega⟩ rfl rfl hl.1 (Nat.le_of_ble_eq_true rfl) dX3_perform_221 ⟨Nat.zero_le _, Nat.zero_le _⟩ (fun H locs hR => ?_)
    exact gr_i F hr hlk hK hR dX3_perform_224 (by rw [ev5]; dsimp only; rw [e0, if_neg (show ¬ (9 : Nat) = 7 by decide), if_neg (show ¬ (9 : Nat) = 11 by decide)]; rfl) (by rw [ev5]; dsimp only; rw [e0, if_neg (show ¬ (9 : Nat) = 7 by decide), if_neg (show ¬ (9 : Nat) = 11 by decide)]; rfl)
  · refine lv_tableIn (x := nI 10) (tgt := 225) hx hb dX3_perform_4 (by decide) (by decide) (off := 221) (by decide) (by decide) ?_
    refine lv_aload_n hx hb dX3_perform_225 rfl (lv_at hl 0 rfl) ?_
    refine ng_0 F hK hR fl_X3_12 dX3_perform_226 ?_
    refine lv_iconst (v := nI 3) hx hb dX3_perform_229 (by decide) ?_
    refine lv_aload_n hx hb dX3_perform_230 rfl (lv_at hl 2 rfl) ?_
    refine ag_2 F hK hR (by omega) (by omega) (hac) (by omega) (by omega) fl_X3_120 dX3_perform_231 ?_
    refine gcVv (As := [.int (nI 3), .int (S 11 (40 * (4 * x + q) + 4 * i + 1))]) F hK hR hml cv_X3_48 (o := 3) (rfl) rfl rfl (c_X1_note l G A adr n S Y L (cev S) (nI 3) (S 11 (40 * (4 * x + q) + 4 * i + 1)) (hev) (by omega)) ⟨rfl, rfl⟩ ⟨by dsimp only [rmL]; omega, by dsimp only [rmL]; omega⟩ rfl rfl hl.1 (Nat.le_of_ble_eq_true rfl) dX3_perform_234 ⟨Nat.zero_le _, Nat.zero_le _⟩ (fun H locs hR => ?_)
    refine lv_iconst (v := (-1)) hx hb dX3_perform_237 (by decide) ?_
    exact gr_i F hr hlk hK hR dX3_perform_238 (by rw [ev5]; dsimp only; rw [e0, if_neg (show ¬ (10 : Nat) = 7 by decide), if_neg (show ¬ (10 : Nat) = 11 by decide)]; rfl) (by rw [ev5]; dsimp only; rw [e0, if_neg (show ¬ (10 : Nat) = 7 by decide), if_neg (show ¬ (10 : Nat) = 11 by decide)]; rfl)
  · refine lv_tableIn (x := nI 11) (tgt := 245) hx hb dX3_perform_4 (by decide) (by decide) (off := 241) (by decide) (by decide) ?_
    refine lv_iconst (v := (-1)) hx hb dX3_perform_245 (by decide) ?_
    exact gr_i F hr hlk hK hR dX3_perform_246 (by rw [ev5]; dsimp only; rw [e0, if_neg (by decide), if_pos rfl]) (by rw [ev5]; dsimp only; rw [e0, if_neg (by decide), if_pos rfl])
  · refine lv_tableIn (x := nI 12) (tgt := 239) hx hb dX3_perform_4 (by decide) (by decide) (off := 235) (by decide) (by decide) ?_
    refine lv_aload_n hx hb dX3_perform_239 rfl (lv_at hl 1 rfl) ?_
    refine gcVv (As := []) F hK hR hml cv_X3_154 (o := nk x 0) (ccel_k (by omega) (by decide)) rfl rfl (c_X2_dropRow l G A adr n S Y L x (by omega)) ⟨rfl, rfl⟩ ⟨by dsimp only [rmL]; omega, by dsimp only [rmL]; omega⟩ rfl rfl hl.1 (Nat.le_of_ble_eq_true rfl) dX3_perform_240 ⟨Nat.zero_le _, Nat.zero_le _⟩ (fun H locs hR => ?_)
    refine lv_iconst (v := (-1)) hx hb dX3_perform_243 (by decide) ?_
    exact gr_i F hr hlk hK hR dX3_perform_244 (by rw [ev5]; dsimp only; rw [e0, if_neg (show ¬ (12 : Nat) = 7 by decide), if_neg (show ¬ (12 : Nat) = 11 by decide)]; rfl) (by rw [ev5]; dsimp only; rw [e0, if_neg (show ¬ (12 : Nat) = 7 by decide), if_neg (show ¬ (12 : Nat) = 11 by decide)]; rfl)
set_option maxHeartbeats 4000000 in
set_option maxRecDepth 100000 in
theorem st_work {l : Launch} {G : gw_G} {A : Nat → Prop} {adr : Nat → Nat} {n : Nat} {L : Int64} {k : Nat} (hA : cmAll l G A adr n L k) : cmK l G A adr n L (k + 1) := by
  intro S Y x q d hs hd hxn hq hd8 hm
  refine gm_of (own := RX3) (by decide) rfl (Nat.le_of_ble_eq_true rfl) ?_
  intro p e s m below meth c ls F hml hr hlk hnm hK hR hl
  have hx := F.1
  have hb := F.2.1
  obtain ⟨hev, he⟩ := hd.ev
  have hn12 := hs.1
  replace hl : lv_has ls 9 [(0, .ref (adr 2)), (1, .ref (adr (nk x 0))), (2, .int (nI q)), (3, .int (nI d))] := hl
  refine lv_aload_n hx hb dX3_work_0 rfl (lv_at hl 1 rfl) ?_
  refine kg_10 F hK hR (by omega) fl_X3_82 dX3_work_1 ?_
  refine lv_iload_n hx hb dX3_work_4 rfl (lv_at hl 2 rfl) ?_
  refine mt_ld F hK hR (by omega) (by omega) dX3_work_5 ?_
  refine lv_astore (lv' := [(4, .ref (adr (nk x (6 + q)))), (0, .ref (adr 2)), (1, .ref (adr (nk x 0))), (2, .int (nI q)), (3, .int (nI d))]) hx hb dX3_work_6 hl (by decide) rfl (fun ls hl => ?_)
  refine lv_iconst (v := nI 0) hx hb dX3_work_8 (by decide) ?_
  refine lv_istore (lv' := [(5, .int (nI 0)), (4, .ref (adr (nk x (6 + q)))), (0, .ref (adr 2)), (1, .ref (adr (nk x 0))), (2, .int (nI q)), (3, .int (nI d))]) hx hb dX3_work_9 hl (by decide) rfl (fun ls hl => ?_)
  refine lv_iconst (v := nI 0) hx hb dX3_work_11 (by decide) ?_
  refine lv_istore (lv' := [(6, .int (nI 0)), (5, .int (nI 0)), (4, .ref (adr (nk x (6 + q)))), (0, .ref (adr 2)), (1, .ref (adr (nk x 0))), (2, .int (nI q)), (3, .int (nI d))]) hx hb dX3_work_12 hl (by decide) rfl (fun ls hl => ?_)
  obtain ⟨ac, hae, h10⟩ : ∃ ac, S 10 (4 * x + q) = nI ac ∧ ac ≤ 10 := ⟨_, (sI_ac hs (by omega)).2, (sI_ac hs (by omega)).1⟩
  have hfn : (S 10 (4 * x + q)).toNatClampNeg = ac := by rw [hae, nI_clamp (by omega)]
  obtain ⟨R0, hR0⟩ : ∃ R0, R0 = ev (k + 1) 3 x q 0 d (S, Y) := ⟨_, rfl⟩
  rw [← hR0]
  refine lp_gen hR (fun H locs hR => ?_)
  obtain ⟨i, hi0⟩ : ∃ i : Nat, i = 0 := ⟨_, rfl⟩
  obtain ⟨nx, hw0⟩ : ∃ nx : Nat, nx = 0 := ⟨_, rfl⟩
  obtain ⟨st, hst0⟩ : ∃ st : cST, st = (S, Y) := ⟨_, rfl⟩
  have hs0 : sI n st.1 := by rw [hst0]; exact hs
  have hd0 : dI n st.1 := by rw [hst0]; exact hd
  have hm0 : 40 * cN st.1 n + 5 * (8 - d) ≤ k + 1 := by rw [hst0]; exact hm
  have hst : sta S st.1 := by rw [hst0]; exact sta.rf
  have hle : i ≤ ac := by omega
  have hnx : nx ≤ 40 := by omega
  have hQ : wkL (ev k) x q d (ac - i) i nx st = R0 := by rw [hR0, ev3, hi0, hw0, hst0, hfn, Nat.sub_zero]
  generalize hdd : ac - i = dd at hQ
  replace hl : lv_has ls 9 [(6, .int (nI i)), (5, .int (nI nx)), (4, .ref (adr (nk x (6 + q)))), (0, .ref (adr 2)), (1, .ref (adr (nk x 0))), (2, .int (nI q)), (3, .int (nI d))] := by rw [hi0, hw0]; exact lv_sub hl [0, 1, 2, 3, 4, 5, 6] rfl
  replace hR : cB G A adr n st.1 st.2 L s.heap H locs := by rw [hst0]; exact hR
  clear hR0 hi0 hw0 hst0 hd hm hev he
  induction dd generalizing i nx st ls H locs with
  | zero =>
    have hac : st.1 10 (4 * x + q) = nI ac := (congrFun (hst 10 (by omega)) _).trans hae
    have hRw : (-1, st) = R0 := hQ
    refine lv_iload hx hb dX3_work_14 (lv_at hl 0 rfl) ?_
    refine lv_aload hx hb dX3_work_16 (lv_at hl 2 rfl) ?_
    refine mg_2 F hK hR (by omega) (by omega) fl_X3_86 dX3_work_18 ?_
    refine lv_eq (hac) ?_
    refine nv_icmp_ge (by omega) (by omega) hx hb dX3_work_21 (tgt := 90) (by decide) (fun c_21 => ?_) (fun c_21 => absurd c_21 (by omega))
    refine lv_iconst (v := (-1)) hx hb dX3_work_90 (by decide) ?_
    exact gr_i F hr hlk hK hR dX3_work_91 (by rw [← hRw]) (by rw [← hRw])
  | succ dd ih =>
    have hac : st.1 10 (4 * x + q) = nI ac := (congrFun (hst 10 (by omega)) _).trans hae
    have hi4 : i < (st.1 10 (4 * x + q)).toNatClampNeg := by rw [hac, nI_clamp (by omega)]; omega
    refine lv_iload hx hb dX3_work_14 (lv_at hl 0 rfl) ?_
    refine lv_aload hx hb dX3_work_16 (lv_at hl 2 rfl) ?_
    refine mg_2 F hK hR (by omega) (by omega) fl_X3_86 dX3_work_18 ?_
    refine lv_eq (hac) ?_
    refine nv_icmp_ge (by omega) (by omega) hx hb dX3_work_21 (tgt := 90) (by decide) (fun c_21 => absurd c_21 (by omega)) (fun c_21 => ?_)
    refine lv_iload hx hb dX3_work_24 (lv_at hl 0 rfl) ?_
    refine lv_iload hx hb dX3_work_26 (lv_at hl 1 rfl) ?_
    refine nv_icmp_ge (by omega) (by omega) hx hb dX3_work_28 (tgt := 34) (by decide) (fun c_28 => ?_) (fun c_28 => ?_)
    · have n_28 : ¬ (i < nx) := by omega
      refine lv_aload_n hx hb dX3_work_34 rfl (lv_at hl 3 rfl) ?_
      refine lv_aload_n hx hb dX3_work_35 rfl (lv_at hl 4 rfl) ?_
      refine lv_aload hx hb dX3_work_36 (lv_at hl 2 rfl) ?_
      refine mg_1 F hK hR (by omega) (by omega) fl_X3_91 dX3_work_38 ?_
      refine lv_iload hx hb dX3_work_41 (lv_at hl 0 rfl) ?_
      refine ac_ld F hK hR (by omega) (by omega) (hac) (by omega) (by omega) dX3_work_43 ?_
      refine lv_iload_n hx hb dX3_work_44 rfl (lv_at hl 6 rfl) ?_
      refine lv_iconst (v := nI 1) hx hb dX3_work_45 (by decide) ?_
      refine nv_iadd hx hb dX3_work_46 ?_
      refine gcVi (As := [.ref (adr (nk x 0)), .ref (adr (nk x (14 + 10 * q + i))), .int (nI (d + 1))]) F hK hR hml cv_X3_95 (o := 2) (rfl) rfl rfl (hA.2.2.2.2.1 st.1 st.2 x q i (d + 1) hs0 hd0 hxn hq hi4 (by omega) (by omega)) ⟨rfl, rfl⟩ ⟨by dsimp only [rmL]; omega, by dsimp only [rmL]; omega⟩ rfl rfl hl.1 (Nat.le_of_ble_eq_true rfl) dX3_work_47 ⟨Nat.zero_le _, Nat.zero_le _⟩ (fun H locs hR => ?_)
      have g_r1 := ev_ok n k 4 x q i (d + 1) st hs0 hd0 hxn hq (fun _ => hi4)
      generalize hr_r1 : ev k 4 x q i (d + 1) st = r1 at g_r1 hR ⊢
      obtain ⟨hev_r1, he_r1⟩ := g_r1.2.2.1.ev
      have hac1 : r1.2.1 10 (4 * x + q) = nI ac := (congrFun (g_r1.1 10 (by omega)) _).trans hac
      have e11 : r1.2.1 11 = st.1 11 := g_r1.1 11 (by omega)
      refine lv_istore (lv' := [(7, .int r1.1), (6, .int (nI i)), (5, .int (nI nx)), (4, .ref (adr (nk x (6 + q)))), (0, .ref (adr 2)), (1, .ref (adr (nk x 0))), (2, .int (nI q)), (3, .int (nI d))]) hx hb dX3_work_50 hl (by decide) rfl (fun ls hl => ?_)
      refine lv_iload hx hb dX3_work_52 (lv_at hl 0 rfl) ?_
      refine lv_iconst (v := (-1)) hx hb dX3_work_54 (by decide) ?_
      refine lv_icmp_eq (tgt := 84) hx hb dX3_work_55 (by decide) (fun c_55 => ?_) (fun c_55 => ?_)
      · refine lv_iinc (v := nI (i + 1)) (lv' := [(6, .int (nI (i + 1))), (7, .int r1.1), (5, .int (nI nx)), (4, .ref (adr (nk x (6 + q)))), (0, .ref (adr 2)), (1, .ref (adr (nk x 0))), (2, .int (nI q)), (3, .int (nI d))]) hx hb dX3_work_84 hl (k := 1) rfl (nI_add _ _) (by decide) rfl (fun ls hl => ?_)
        refine lv_goto (tgt := 14) hx hb dX3_work_87 (by decide) ?_
        have hQ2 : wkL (ev k) x q d dd (i + 1) nx r1.2 = R0 := by rw [← hQ, wkL, if_neg (by omega), hr_r1, if_pos c_55]
        have hcn : 40 * cN r1.2.1 n + 5 * (8 - d) ≤ k + 1 := by have hc1 : cN r1.2.1 n ≤ cN st.1 n := cN_le g_r1.2.1; omega
        exact ih _ _ _ (i + 1) nx r1.2 (hs0.to g_r1.1) g_r1.2.2.1 hcn (hst.tr g_r1.1) (by omega) (by omega) (by omega) hQ2 (lv_sub hl [0, 2, 3, 4, 5, 6, 7] rfl) hR
      · refine lv_aload hx hb dX3_work_58 (lv_at hl 3 rfl) ?_
        refine lv_iload hx hb dX3_work_60 (lv_at hl 1 rfl) ?_
        refine lv_iload hx hb dX3_work_62 (lv_at hl 0 rfl) ?_
        refine gcVi (As := [.int (nI i), .int r1.1]) F hK hR hml cv_X3_99 (o := nk x (6 + q)) ((ccel_k (by omega) (by omega)).trans (kc_m (by omega))) rfl rfl (c_X4_endOfCatch l G A adr n r1.2.1 r1.2.2 L x q ac i r1.1 hxn hn12 hq hac1 h10 (by omega)) ⟨rfl, rfl⟩ ⟨by dsimp only [rmL]; omega, by dsimp only [rmL]; omega⟩ rfl rfl hl.1 (Nat.le_of_ble_eq_true rfl) dX3_work_64 ⟨Nat.zero_le _, Nat.zero_le _⟩ (fun H locs hR => ?_)
        rw [e11]
        refine lv_istore (lv' := [(8, .int (eoc (st.1 11) (4 * x + q) i r1.1 i)), (7, .int r1.1), (6, .int (nI i)), (5, .int (nI nx)), (4, .ref (adr (nk x (6 + q)))), (0, .ref (adr 2)), (1, .ref (adr (nk x 0))), (2, .int (nI q)), (3, .int (nI d))]) hx hb dX3_work_67 hl (by decide) rfl (fun ls hl => ?_)
        refine lv_iload hx hb dX3_work_69 (lv_at hl 0 rfl) ?_
        refine lv_iconst (v := (-1)) hx hb dX3_work_71 (by decide) ?_
        refine lv_icmp_ne (tgt := 78) hx hb dX3_work_72 (by decide) (fun c_72 => ?_) (fun c_72 => ?_)
        · have hen : ¬ eoc (st.1 11) (4 * x + q) i r1.1 i = -1 := c_72
          obtain ⟨en, hen9, hee⟩ := (eoc_some (a := st.1 11) (mm := 4 * x + q) (pl := i) (w := r1.1) i (fun j hj h11 => act_t (sI_act hs0 hxn hq (i := j) (by omega)) h11)).resolve_left hen
          replace hl : lv_has ls 9 [(8, .int (nI en)), (7, .int r1.1), (6, .int (nI i)), (5, .int (nI nx)), (4, .ref (adr (nk x (6 + q)))), (0, .ref (adr 2)), (1, .ref (adr (nk x 0))), (2, .int (nI q)), (3, .int (nI d))] := by rw [← hee]; exact hl
          refine lv_iload hx hb dX3_work_78 (lv_at hl 0 rfl) ?_
          refine lv_iconst (v := nI 1) hx hb dX3_work_80 (by decide) ?_
          refine nv_iadd hx hb dX3_work_81 ?_
          refine lv_istore (lv' := [(5, .int (nI (en + 1))), (8, .int (nI en)), (7, .int r1.1), (6, .int (nI i)), (4, .ref (adr (nk x (6 + q)))), (0, .ref (adr 2)), (1, .ref (adr (nk x 0))), (2, .int (nI q)), (3, .int (nI d))]) hx hb dX3_work_82 hl (by decide) rfl (fun ls hl => ?_)
          refine lv_iinc (v := nI (i + 1)) (lv' := [(6, .int (nI (i + 1))), (5, .int (nI (en + 1))), (8, .int (nI en)), (7, .int r1.1), (4, .ref (adr (nk x (6 + q)))), (0, .ref (adr 2)), (1, .ref (adr (nk x 0))), (2, .int (nI q)), (3, .int (nI d))]) hx hb dX3_work_84 hl (k := 3) rfl (nI_add _ _) (by decide) rfl (fun ls hl => ?_)
          refine lv_goto (tgt := 14) hx hb dX3_work_87 (by decide) ?_
          have hQ2 : wkL (ev k) x q d dd (i + 1) (en + 1) r1.2 = R0 := by rw [← hQ, wkL, if_neg (by omega), hr_r1, if_neg c_55, if_neg hen, hee, nI_clamp (by omega)]
          have hcn : 40 * cN r1.2.1 n + 5 * (8 - d) ≤ k + 1 := by have hc1 : cN r1.2.1 n ≤ cN st.1 n := cN_le g_r1.2.1; omega
          exact ih _ _ _ (i + 1) (en + 1) r1.2 (hs0.to g_r1.1) g_r1.2.2.1 hcn (hst.tr g_r1.1) (by omega) (by omega) (by omega) hQ2 (lv_sub hl [0, 1, 4, 5, 6, 7, 8] rfl) hR
        · refine lv_iload hx hb dX3_work_75 (lv_at hl 1 rfl) ?_
          exact gr_i F hr hlk hK hR dX3_work_77 (by rw [← hQ, wkL, if_neg (by omega), hr_r1, if_neg c_55, if_pos c_72]) (by rw [← hQ, wkL, if_neg (by omega), hr_r1, if_neg c_55, if_pos c_72])
    · have n_28 : ¬ (nx ≤ i) := by omega
      refine lv_goto (tgt := 84) hx hb dX3_work_31 (by decide) ?_
      refine lv_iinc (v := nI (i + 1)) (lv' := [(6, .int (nI (i + 1))), (5, .int (nI nx)), (4, .ref (adr (nk x (6 + q)))), (0, .ref (adr 2)), (1, .ref (adr (nk x 0))), (2, .int (nI q)), (3, .int (nI d))]) hx hb dX3_work_84 hl (k := 0) rfl (nI_add _ _) (by decide) rfl (fun ls hl => ?_)
      refine lv_goto (tgt := 14) hx hb dX3_work_87 (by decide) ?_
      have hQ2 : wkL (ev k) x q d dd (i + 1) nx st = R0 := by rw [← hQ, wkL, if_pos (by omega)]
      have hcn : 40 * cN st.1 n + 5 * (8 - d) ≤ k + 1 := by exact hm0
      exact ih _ _ _ (i + 1) nx st hs0 hd0 hcn hst (by omega) (by omega) (by omega) hQ2 (lv_sub hl [0, 1, 2, 3, 4, 5, 6] rfl) hR
