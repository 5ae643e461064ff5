/-! THE CLASS, 18: numbersFit, named, act -/
theorem isC_are {b : Int32} : sp_isC b = if b < nI 1 then nI 0 else if nI 3 < b then nI 0 else nI 1 := by
  unfold sp_isC
  by_cases h1 : b < nI 1
  · rw [if_pos h1, if_pos h1]
  · rw [if_neg h1, if_neg h1]
    have e : nI 4 ≤ b ↔ nI 3 < b := by
      rw [Int32.le_iff_toInt_le, Int32.lt_iff_toInt_lt]
      have e1 : (nI 4).toInt = 4 := rfl
      have e2 : (nI 3).toInt = 3 := rfl
      omega
    by_cases h2 : nI 4 ≤ b
    · rw [if_pos h2, if_pos (e.mp h2)]
    · rw [if_neg h2, if_neg (fun q => h2 (e.mpr q))]
theorem sp_isC01 (b : Int32) : sp_isC b = 0 ∨ sp_isC b = 1 := by
  unfold sp_isC
  split
  · exact Or.inl rfl
  · split
    · exact Or.inl rfl
    · exact Or.inr rfl
set_option maxHeartbeats 4000000 in
set_option maxRecDepth 100000 in
/-- Act.numbersFit(sort, a, b, c) -/
theorem c_X0_numbersFit (l : Launch) (so : Nat) (ra rb rc : Int32) (hso : so ≤ 12) : gs l yX0_numbersFit cX0_numbersFit 4 (some .boolean) (rmL 1) [.int (nI so), .int ra, .int rb, .int rc] (sp_areIn so ra rb rc) := by
  refine gs_of (own := RX0) (by decide) rfl (Nat.le_of_ble_eq_true rfl) ?_
  intro p e s m below meth c ls F hml hr hlk hl
  have hx := F.1
  have hb := F.2.1
  replace hl : lv_has ls 4 [(0, .int (nI so)), (1, .int ra), (2, .int rb), (3, .int rc)] := hl
  refine lv_iload_n hx hb dX0_numbersFit_0 rfl (lv_at hl 0 rfl) ?_
  rcases (so_all hso : so = 0 ∨ so = 1 ∨ so = 2 ∨ so = 3 ∨ so = 4 ∨ so = 5 ∨ so = 6 ∨ so = 7 ∨ so = 8 ∨ so = 9 ∨ so = 10 ∨ so = 11 ∨ so = 12) with rfl | rfl | rfl | rfl | rfl | rfl | rfl | rfl | rfl | rfl | rfl | rfl | rfl
  · refine lv_tableIn (x := nI 0) (tgt := 68) hx hb dX0_numbersFit_1 (by decide) (by decide) (off := 67) (by decide) (by decide) ?_
    refine lv_iload_n hx hb dX0_numbersFit_68 rfl (lv_at hl 1 rfl) ?_
    refine gcS (As := [.int ra]) F hml cs_X0_31 (c_X2_isField l ra) ⟨rfl, rfl⟩ ⟨Nat.le_of_ble_eq_true rfl, Nat.le_of_ble_eq_true rfl⟩ rfl rfl hl.1 (Nat.le_of_ble_eq_true rfl) dX0_numbersFit_69 ⟨Nat.zero_le _, Nat.zero_le _⟩ ?_
    exact gs_z F hr hlk dX0_numbersFit_72 (sp_isF01 _) (by first | rfl | exact isC_are | (simp only [sp_areIn]; skip))
  · refine lv_tableIn (x := nI 1) (tgt := 73) hx hb dX0_numbersFit_1 (by decide) (by decide) (off := 72) (by decide) (by decide) ?_
    refine lv_iload_n hx hb dX0_numbersFit_73 rfl (lv_at hl 1 rfl) ?_
    refine gcS (As := [.int ra]) F hml cs_X0_31 (c_X2_isField l ra) ⟨rfl, rfl⟩ ⟨Nat.le_of_ble_eq_true rfl, Nat.le_of_ble_eq_true rfl⟩ rfl rfl hl.1 (Nat.le_of_ble_eq_true rfl) dX0_numbersFit_74 ⟨Nat.zero_le _, Nat.zero_le _⟩ ?_
    refine lv_if_eq (tgt := 91) hx hb dX0_numbersFit_77 (by decide) (fun c_77 => ?_) (fun c_77 => ?_)
    · refine lv_iconst (v := nI 0) hx hb dX0_numbersFit_91 (by decide) ?_
      exact gs_z F hr hlk dX0_numbersFit_92 (by decide) (by first | rfl | exact isC_are | (simp only [sp_areIn]; repeat (first | rw [if_pos c_77] | rw [if_neg c_77] | rw [if_neg (not_not_intro c_77)])))
    · refine lv_iload_n hx hb dX0_numbersFit_80 rfl (lv_at hl 3 rfl) ?_
      refine gcS (As := [.int rc]) F hml cs_X0_31 (c_X2_isField l rc) ⟨rfl, rfl⟩ ⟨Nat.le_of_ble_eq_true rfl, Nat.le_of_ble_eq_true rfl⟩ rfl rfl hl.1 (Nat.le_of_ble_eq_true rfl) dX0_numbersFit_81 ⟨Nat.zero_le _, Nat.zero_le _⟩ ?_
      refine lv_if_eq (tgt := 91) hx hb dX0_numbersFit_84 (by decide) (fun c_84 => ?_) (fun c_84 => ?_)
      · refine lv_iconst (v := nI 0) hx hb dX0_numbersFit_91 (by decide) ?_
        exact gs_z F hr hlk dX0_numbersFit_92 (by decide) (by first | rfl | exact isC_are | (simp only [sp_areIn]; repeat (first | rw [if_pos c_77] | rw [if_neg c_77] | rw [if_neg (not_not_intro c_77)] | rw [if_pos c_84] | rw [if_neg c_84] | rw [if_neg (not_not_intro c_84)])))
      · refine lv_iconst (v := nI 1) hx hb dX0_numbersFit_87 (by decide) ?_
        refine lv_goto (tgt := 92) hx hb dX0_numbersFit_88 (by decide) ?_
        exact gs_z F hr hlk dX0_numbersFit_92 (by decide) (by first | rfl | exact isC_are | (simp only [sp_areIn]; repeat (first | rw [if_pos c_77] | rw [if_neg c_77] | rw [if_neg (not_not_intro c_77)] | rw [if_pos c_84] | rw [if_neg c_84] | rw [if_neg (not_not_intro c_84)])))
  · refine lv_tableIn (x := nI 2) (tgt := 73) hx hb dX0_numbersFit_1 (by decide) (by decide) (off := 72) (by decide) (by decide) ?_
    refine lv_iload_n hx hb dX0_numbersFit_73 rfl (lv_at hl 1 rfl) ?_
    refine gcS (As := [.int ra]) F hml cs_X0_31 (c_X2_isField l ra) ⟨rfl, rfl⟩ ⟨Nat.le_of_ble_eq_true rfl, Nat.le_of_ble_eq_true rfl⟩ rfl rfl hl.1 (Nat.le_of_ble_eq_true rfl) dX0_numbersFit_74 ⟨Nat.zero_le _, Nat.zero_le _⟩ ?_
    refine lv_if_eq (tgt := 91) hx hb dX0_numbersFit_77 (by decide) (fun c_77 => ?_) (fun c_77 => ?_)
    · refine lv_iconst (v := nI 0) hx hb dX0_numbersFit_91 (by decide) ?_
      exact gs_z F hr hlk dX0_numbersFit_92 (by decide) (by first | rfl | exact isC_are | (simp only [sp_areIn]; repeat (first | rw [if_pos c_77] | rw [if_neg c_77] | rw [if_neg (not_not_intro c_77)])))
    · refine lv_iload_n hx hb dX0_numbersFit_80 rfl (lv_at hl 3 rfl) ?_
      refine gcS (As := [.int rc]) F hml cs_X0_31 (c_X2_isField l rc) ⟨rfl, rfl⟩ ⟨Nat.le_of_ble_eq_true rfl, Nat.le_of_ble_eq_true rfl⟩ rfl rfl hl.1 (Nat.le_of_ble_eq_true rfl) dX0_numbersFit_81 ⟨Nat.zero_le _, Nat.zero_le _⟩ ?_
      refine lv_if_eq (tgt := 91) hx hb dX0_numbersFit_84 (by decide) (fun c_84 => ?_) (fun c_84 => ?_)
      · refine lv_iconst (v := nI 0) hx hb dX0_numbersFit_91 (by decide) ?_
        exact gs_z F hr hlk dX0_numbersFit_92 (by decide) (by first | rfl | exact isC_are | (simp only [sp_areIn]; repeat (first | rw [if_pos c_77] | rw [if_neg c_77] | rw [if_neg (not_not_intro c_77)] | rw [if_pos c_84] | rw [if_neg c_84] | rw [if_neg (not_not_intro c_84)])))
      · refine lv_iconst (v := nI 1) hx hb dX0_numbersFit_87 (by decide) ?_
        refine lv_goto (tgt := 92) hx hb dX0_numbersFit_88 (by decide) ?_
        exact gs_z F hr hlk dX0_numbersFit_92 (by decide) (by first | rfl | exact isC_are | (simp only [sp_areIn]; repeat (first | rw [if_pos c_77] | rw [if_neg c_77] | rw [if_neg (not_not_intro c_77)] | rw [if_pos c_84] | rw [if_neg c_84] | rw [if_neg (not_not_intro c_84)])))
  · refine lv_tableIn (x := nI 3) (tgt := 73) hx hb dX0_numbersFit_1 (by decide) (by decide) (off := 72) (by decide) (by decide) ?_
    refine lv_iload_n hx hb dX0_numbersFit_73 rfl (lv_at hl 1 rfl) ?_
    refine gcS (As := [.int ra]) F hml cs_X0_31 (c_X2_isField l ra) ⟨rfl, rfl⟩ ⟨Nat.le_of_ble_eq_true rfl, Nat.le_of_ble_eq_true rfl⟩ rfl rfl hl.1 (Nat.le_of_ble_eq_true rfl) dX0_numbersFit_74 ⟨Nat.zero_le _, Nat.zero_le _⟩ ?_
    refine lv_if_eq (tgt := 91) hx hb dX0_numbersFit_77 (by decide) (fun c_77 => ?_) (fun c_77 => ?_)
    · refine lv_iconst (v := nI 0) hx hb dX0_numbersFit_91 (by decide) ?_
      exact gs_z F hr hlk dX0_numbersFit_92 (by decide) (by first | rfl | exact isC_are | (simp only [sp_areIn]; repeat (first | rw [if_pos c_77] | rw [if_neg c_77] | rw [if_neg (not_not_intro c_77)])))
    · refine lv_iload_n hx hb dX0_numbersFit_80 rfl (lv_at hl 3 rfl) ?_
      refine gcS (As := [.int rc]) F hml cs_X0_31 (c_X2_isField l rc) ⟨rfl, rfl⟩ ⟨Nat.le_of_ble_eq_true rfl, Nat.le_of_ble_eq_true rfl⟩ rfl rfl hl.1 (Nat.le_of_ble_eq_true rfl) dX0_numbersFit_81 ⟨Nat.zero_le _, Nat.zero_le _⟩ ?_
      refine lv_if_eq (tgt := 91) hx hb dX0_numbersFit_84 (by decide) (fun c_84 => ?_) (fun c_84 => ?_)
      · refine lv_iconst (v := nI 0) hx hb dX0_numbersFit_91 (by decide) ?_
        exact gs_z F hr hlk dX0_numbersFit_92 (by decide) (by first | rfl | exact isC_are | (simp only [sp_areIn]; repeat (first | rw [if_pos c_77] | rw [if_neg c_77] | rw [if_neg (not_not_intro c_77)] | rw [if_pos c_84] | rw [if_neg c_84] | rw [if_neg (not_not_intro c_84)])))
      · refine lv_iconst (v := nI 1) hx hb dX0_numbersFit_87 (by decide) ?_
        refine lv_goto (tgt := 92) hx hb dX0_numbersFit_88 (by decide) ?_
        exact gs_z F hr hlk dX0_numbersFit_92 (by decide) (by first | rfl | exact isC_are | (simp only [sp_areIn]; repeat (first | rw [if_pos c_77] | rw [if_neg c_77] | rw [if_neg (not_not_intro c_77)] | rw [if_pos c_84] | rw [if_neg c_84] | rw [if_neg (not_not_intro c_84)])))
  · refine lv_tableIn (x := nI 4) (tgt := 68) hx hb dX0_numbersFit_1 (by decide) (by decide) (off := 67) (by decide) (by decide) ?_
    refine lv_iload_n hx hb dX0_numbersFit_68 rfl (lv_at hl 1 rfl) ?_
    refine gcS (As := [.int ra]) F hml cs_X0_31 (c_X2_isField l ra) ⟨rfl, rfl⟩ ⟨Nat.le_of_ble_eq_true rfl, Nat.le_of_ble_eq_true rfl⟩ rfl rfl hl.1 (Nat.le_of_ble_eq_true rfl) dX0_numbersFit_69 ⟨Nat.zero_le _, Nat.zero_le _⟩ ?_
    exact gs_z F hr hlk dX0_numbersFit_72 (sp_isF01 _) (by first | rfl | exact isC_are | (simp only [sp_areIn]; skip))
  · refine lv_tableIn (x := nI 5) (tgt := 93) hx hb dX0_numbersFit_1 (by decide) (by decide) (off := 92) (by decide) (by decide) ?_
    refine lv_iload_n hx hb dX0_numbersFit_93 rfl (lv_at hl 1 rfl) ?_
    refine gcS (As := [.int ra]) F hml cs_X0_31 (c_X2_isField l ra) ⟨rfl, rfl⟩ ⟨Nat.le_of_ble_eq_true rfl, Nat.le_of_ble_eq_true rfl⟩ rfl rfl hl.1 (Nat.le_of_ble_eq_true rfl) dX0_numbersFit_94 ⟨Nat.zero_le _, Nat.zero_le _⟩ ?_
    refine lv_if_eq (tgt := 111) hx hb dX0_numbersFit_97 (by decide) (fun c_97 => ?_) (fun c_97 => ?_)
    · refine lv_iconst (v := nI 0) hx hb dX0_numbersFit_111 (by decide) ?_
      exact gs_z F hr hlk dX0_numbersFit_112 (by decide) (by first | rfl | exact isC_are | (simp only [sp_areIn]; repeat (first | rw [if_pos c_97] | rw [if_neg c_97] | rw [if_neg (not_not_intro c_97)])))
    · refine lv_iload_n hx hb dX0_numbersFit_100 rfl (lv_at hl 2 rfl) ?_
      refine gcS (As := [.int rb]) F hml cs_X0_31 (c_X2_isField l rb) ⟨rfl, rfl⟩ ⟨Nat.le_of_ble_eq_true rfl, Nat.le_of_ble_eq_true rfl⟩ rfl rfl hl.1 (Nat.le_of_ble_eq_true rfl) dX0_numbersFit_101 ⟨Nat.zero_le _, Nat.zero_le _⟩ ?_
      refine lv_if_eq (tgt := 111) hx hb dX0_numbersFit_104 (by decide) (fun c_104 => ?_) (fun c_104 => ?_)
      · refine lv_iconst (v := nI 0) hx hb dX0_numbersFit_111 (by decide) ?_
        exact gs_z F hr hlk dX0_numbersFit_112 (by decide) (by first | rfl | exact isC_are | (simp only [sp_areIn]; repeat (first | rw [if_pos c_97] | rw [if_neg c_97] | rw [if_neg (not_not_intro c_97)] | rw [if_pos c_104] | rw [if_neg c_104] | rw [if_neg (not_not_intro c_104)])))
      · refine lv_iconst (v := nI 1) hx hb dX0_numbersFit_107 (by decide) ?_
        refine lv_goto (tgt := 112) hx hb dX0_numbersFit_108 (by decide) ?_
        exact gs_z F hr hlk dX0_numbersFit_112 (by decide) (by first | rfl | exact isC_are | (simp only [sp_areIn]; repeat (first | rw [if_pos c_97] | rw [if_neg c_97] | rw [if_neg (not_not_intro c_97)] | rw [if_pos c_104] | rw [if_neg c_104] | rw [if_neg (not_not_intro c_104)])))
  · refine lv_tableIn (x := nI 6) (tgt := 93) hx hb dX0_numbersFit_1 (by decide) (by decide) (off := 92) (by decide) (by decide) ?_
    refine lv_iload_n hx hb dX0_numbersFit_93 rfl (lv_at hl 1 rfl) ?_
    refine gcS (As := [.int ra]) F hml cs_X0_31 (c_X2_isField l ra) ⟨rfl, rfl⟩ ⟨Nat.le_of_ble_eq_true rfl, Nat.le_of_ble_eq_true rfl⟩ rfl rfl hl.1 (Nat.le_of_ble_eq_true rfl) dX0_numbersFit_94 ⟨Nat.zero_le _, Nat.zero_le _⟩ ?_
    refine lv_if_eq (tgt := 111) hx hb dX0_numbersFit_97 (by decide) (fun c_97 => ?_) (fun c_97 => ?_)
    · refine lv_iconst (v := nI 0) hx hb dX0_numbersFit_111 (by decide) ?_
      exact gs_z F hr hlk dX0_numbersFit_112 (by decide) (by first | rfl | exact isC_are | (simp only [sp_areIn]; repeat (first | rw [if_pos c_97] | rw [if_neg c_97] | rw [if_neg (not_not_intro c_97)])))
    · refine lv_iload_n hx hb dX0_numbersFit_100 rfl (lv_at hl 2 rfl) ?_
      refine gcS (As := [.int rb]) F hml cs_X0_31 (c_X2_isField l rb) ⟨rfl, rfl⟩ ⟨Nat.le_of_ble_eq_true rfl, Nat.le_of_ble_eq_true rfl⟩ rfl rfl hl.1 (Nat.le_of_ble_eq_true rfl) dX0_numbersFit_101 ⟨Nat.zero_le _, Nat.zero_le _⟩ ?_
      refine lv_if_eq (tgt := 111) hx hb dX0_numbersFit_104 (by decide) (fun c_104 => ?_) (fun c_104 => ?_)
      · refine lv_iconst (v := nI 0) hx hb dX0_numbersFit_111 (by decide) ?_
        exact gs_z F hr hlk dX0_numbersFit_112 (by decide) (by first | rfl | exact isC_are | (simp only [sp_areIn]; repeat (first | rw [if_pos c_97] | rw [if_neg c_97] | rw [if_neg (not_not_intro c_97)] | rw [if_pos c_104] | rw [if_neg c_104] | rw [if_neg (not_not_intro c_104)])))
      · refine lv_iconst (v := nI 1) hx hb dX0_numbersFit_107 (by decide) ?_
        refine lv_goto (tgt := 112) hx hb dX0_numbersFit_108 (by decide) ?_
        exact gs_z F hr hlk dX0_numbersFit_112 (by decide) (by first | rfl | exact isC_are | (simp only [sp_areIn]; repeat (first | rw [if_pos c_97] | rw [if_neg c_97] | rw [if_neg (not_not_intro c_97)] | rw [if_pos c_104] | rw [if_neg c_104] | rw [if_neg (not_not_intro c_104)])))
  · refine lv_tableIn (x := nI 7) (tgt := 113) hx hb dX0_numbersFit_1 (by decide) (by decide) (off := 112) (by decide) (by decide) ?_
    refine lv_iload_n hx hb dX0_numbersFit_113 rfl (lv_at hl 2 rfl) ?_
    refine gcS (As := [.int rb]) F hml cs_X0_37 (c_X2_isCallable l rb) ⟨rfl, rfl⟩ ⟨Nat.le_of_ble_eq_true rfl, Nat.le_of_ble_eq_true rfl⟩ rfl rfl hl.1 (Nat.le_of_ble_eq_true rfl) dX0_numbersFit_114 ⟨Nat.zero_le _, Nat.zero_le _⟩ ?_
    exact gs_z F hr hlk dX0_numbersFit_117 (sp_isC01 _) (by first | rfl | exact isC_are | (simp only [sp_areIn]; skip))
  · refine lv_tableIn (x := nI 8) (tgt := 161) hx hb dX0_numbersFit_1 (by decide) (by decide) (off := 160) (by decide) (by decide) ?_
    refine lv_iconst (v := nI 1) hx hb dX0_numbersFit_161 (by decide) ?_
    exact gs_z F hr hlk dX0_numbersFit_162 (by decide) (by first | rfl | exact isC_are | (simp only [sp_areIn]; skip))
  · refine lv_tableIn (x := nI 9) (tgt := 118) hx hb dX0_numbersFit_1 (by decide) (by decide) (off := 117) (by decide) (by decide) ?_
    refine lv_iload_n hx hb dX0_numbersFit_118 rfl (lv_at hl 1 rfl) ?_
    refine lv_if_lt (tgt := 131) hx hb dX0_numbersFit_119 (by decide) (fun c_119 => ?_) (fun c_119 => ?_)
    · have n_119 := Int32.not_le.mpr c_119
      refine lv_iconst (v := nI 0) hx hb dX0_numbersFit_131 (by decide) ?_
      exact gs_z F hr hlk dX0_numbersFit_132 (by decide) (by first | rfl | exact isC_are | (simp only [sp_areIn]; repeat (first | rw [if_pos c_119] | rw [if_neg c_119] | rw [if_neg (not_not_intro c_119)] | rw [if_pos n_119] | rw [if_neg n_119] | rw [if_neg (not_not_intro n_119)])))
    · have n_119 := Int32.not_lt.mp c_119
      refine lv_iload_n hx hb dX0_numbersFit_122 rfl (lv_at hl 1 rfl) ?_
      refine lv_iconst (v := nI 2) hx hb dX0_numbersFit_123 (by decide) ?_
      refine lv_icmp_gt (tgt := 131) hx hb dX0_numbersFit_124 (by decide) (fun c_124 => ?_) (fun c_124 => ?_)
      · have n_124 := Int32.not_le.mpr c_124
        refine lv_iconst (v := nI 0) hx hb dX0_numbersFit_131 (by decide) ?_
        exact gs_z F hr hlk dX0_numbersFit_132 (by decide) (by first | rfl | exact isC_are | (simp only [sp_areIn]; repeat (first | rw [if_pos c_119] | rw [if_neg c_119] | rw [if_neg (not_not_intro c_119)] | rw [if_pos n_119] | rw [if_neg n_119] | rw [if_neg (not_not_intro n_119)] | rw [if_pos c_124] | rw [if_neg c_124] | rw [if_neg (not_not_intro c_124)] | rw [if_pos n_124] | rw [if_neg n_124] | rw [if_neg (not_not_intro n_124)])))
      · have n_124 := Int32.not_lt.mp c_124
        refine lv_iconst (v := nI 1) hx hb dX0_numbersFit_127 (by decide) ?_
        refine lv_goto (tgt := 132) hx hb dX0_numbersFit_128 (by decide) ?_
        exact gs_z F hr hlk dX0_numbersFit_132 (by decide) (by first | rfl | exact isC_are | (simp only [sp_areIn]; repeat (first | rw [if_pos c_119] | rw [if_neg c_119] | rw [if_neg (not_not_intro c_119)] | rw [if_pos n_119] | rw [if_neg n_119] | rw [if_neg (not_not_intro n_119)] | rw [if_pos c_124] | rw [if_neg c_124] | rw [if_neg (not_not_intro c_124)] | rw [if_pos n_124] | rw [if_neg n_124] | rw [if_neg (not_not_intro n_124)])))
  · refine lv_tableIn (x := nI 10) (tgt := 161) hx hb dX0_numbersFit_1 (by decide) (by decide) (off := 160) (by decide) (by decide) ?_
    refine lv_iconst (v := nI 1) hx hb dX0_numbersFit_161 (by decide) ?_
    exact gs_z F hr hlk dX0_numbersFit_162 (by decide) (by first | rfl | exact isC_are | (simp only [sp_areIn]; skip))
  · refine lv_tableIn (x := nI 11) (tgt := 133) hx hb dX0_numbersFit_1 (by decide) (by decide) (off := 132) (by decide) (by decide) ?_
    refine lv_iload_n hx hb dX0_numbersFit_133 rfl (lv_at hl 1 rfl) ?_
    refine lv_iconst (v := nI 1) hx hb dX0_numbersFit_134 (by decide) ?_
    refine lv_icmp_lt (tgt := 159) hx hb dX0_numbersFit_135 (by decide) (fun c_135 => ?_) (fun c_135 => ?_)
    · have n_135 := Int32.not_le.mpr c_135
      refine lv_iconst (v := nI 0) hx hb dX0_numbersFit_159 (by decide) ?_
      exact gs_z F hr hlk dX0_numbersFit_160 (by decide) (by first | rfl | exact isC_are | (simp only [sp_areIn]; repeat (first | rw [if_pos c_135] | rw [if_neg c_135] | rw [if_neg (not_not_intro c_135)] | rw [if_pos n_135] | rw [if_neg n_135] | rw [if_neg (not_not_intro n_135)])))
    · have n_135 := Int32.not_lt.mp c_135
      refine lv_iload_n hx hb dX0_numbersFit_138 rfl (lv_at hl 1 rfl) ?_
      refine lv_bipush (v := nI 9) hx hb dX0_numbersFit_139 (by decide) ?_
      refine lv_icmp_gt (tgt := 159) hx hb dX0_numbersFit_141 (by decide) (fun c_141 => ?_) (fun c_141 => ?_)
      · have n_141 := Int32.not_le.mpr c_141
        refine lv_iconst (v := nI 0) hx hb dX0_numbersFit_159 (by decide) ?_
        exact gs_z F hr hlk dX0_numbersFit_160 (by decide) (by first | rfl | exact isC_are | (simp only [sp_areIn]; repeat (first | rw [if_pos c_135] | rw [if_neg c_135] | rw [if_neg (not_not_intro c_135)] | rw [if_pos n_135] | rw [if_neg n_135] | rw [if_neg (not_not_intro n_135)] | rw [if_pos c_141] | rw [if_neg c_141] | rw [if_neg (not_not_intro c_141)] | rw [if_pos n_141] | rw [if_neg n_141] | rw [if_neg (not_not_intro n_141)])))
      · have n_141 := Int32.not_lt.mp c_141
        refine lv_iload_n hx hb dX0_numbersFit_144 rfl (lv_at hl 2 rfl) ?_
        refine lv_iconst (v := (-1)) hx hb dX0_numbersFit_145 (by decide) ?_
        refine lv_icmp_lt (tgt := 159) hx hb dX0_numbersFit_146 (by decide) (fun c_146 => ?_) (fun c_146 => ?_)
        · have n_146 := Int32.not_le.mpr c_146
          refine lv_iconst (v := nI 0) hx hb dX0_numbersFit_159 (by decide) ?_
          exact gs_z F hr hlk dX0_numbersFit_160 (by decide) (by first | rfl | exact isC_are | (simp only [sp_areIn]; repeat (first | rw [if_pos c_135] | rw [if_neg c_135] | rw [if_neg (not_not_intro c_135)] | rw [if_pos n_135] | rw [if_neg n_135] | rw [if_neg (not_not_intro n_135)] | rw [if_pos c_141] | rw [if_neg c_141] | rw [if_neg (not_not_intro c_141)] | rw [if_pos n_141] | rw [if_neg n_141] | rw [if_neg (not_not_intro n_141)] | rw [if_pos c_146] | rw [if_neg c_146] | rw [if_neg (not_not_intro c_146)] | rw [if_pos n_146] | rw [if_neg n_146] | rw [if_neg (not_not_intro n_146)])))
        · have n_146 := Int32.not_lt.mp c_146
          refine lv_iload_n hx hb dX0_numbersFit_149 rfl (lv_at hl 2 rfl) ?_
          refine lv_bipush (v := nI 9) hx hb dX0_numbersFit_150 (by decide) ?_
          refine lv_icmp_gt (tgt := 159) hx hb dX0_numbersFit_152 (by decide) (fun c_152 => ?_) (fun c_152 => ?_)
          · have n_152 := Int32.not_le.mpr c_152
            refine lv_iconst (v := nI 0) hx hb dX0_numbersFit_159 (by decide) ?_
            exact gs_z F hr hlk dX0_numbersFit_160 (by decide) (by first | rfl | exact isC_are | (simp only [sp_areIn]; repeat (first | rw [if_pos c_135] | rw [if_neg c_135] | rw [if_neg (not_not_intro c_135)] | rw [if_pos n_135] | rw [if_neg n_135] | rw [if_neg (not_not_intro n_135)] | rw [if_pos c_141] | rw [if_neg c_141] | rw [if_neg (not_not_intro c_141)] | rw [if_pos n_141] | rw [if_neg n_141] | rw [if_neg (not_not_intro n_141)] | rw [if_pos c_146] | rw [if_neg c_146] | rw [if_neg (not_not_intro c_146)] | rw [if_pos n_146] | rw [if_neg n_146] | rw [if_neg (not_not_intro n_146)] | rw [if_pos c_152] | rw [if_neg c_152] | rw [if_neg (not_not_intro c_152)] | rw [if_pos n_152] | rw [if_neg n_152] | rw [if_neg (not_not_intro n_152)])))
          · have n_152 := Int32.not_lt.mp c_152
            refine lv_iconst (v := nI 1) hx hb dX0_numbersFit_155 (by decide) ?_
            refine lv_goto (tgt := 160) hx hb dX0_numbersFit_156 (by decide) ?_
            exact gs_z F hr hlk dX0_numbersFit_160 (by decide) (by first | rfl | exact isC_are | (simp only [sp_areIn]; repeat (first | rw [if_pos c_135] | rw [if_neg c_135] | rw [if_neg (not_not_intro c_135)] | rw [if_pos n_135] | rw [if_neg n_135] | rw [if_neg (not_not_intro n_135)] | rw [if_pos c_141] | rw [if_neg c_141] | rw [if_neg (not_not_intro c_141)] | rw [if_pos n_141] | rw [if_neg n_141] | rw [if_neg (not_not_intro n_141)] | rw [if_pos c_146] | rw [if_neg c_146] | rw [if_neg (not_not_intro c_146)] | rw [if_pos n_146] | rw [if_neg n_146] | rw [if_neg (not_not_intro n_146)] | rw [if_pos c_152] | rw [if_neg c_152] | rw [if_neg (not_not_intro c_152)] | rw [if_pos n_152] | rw [if_neg n_152] | rw [if_neg (not_not_intro n_152)])))
  · refine lv_tableIn (x := nI 12) (tgt := 161) hx hb dX0_numbersFit_1 (by decide) (by decide) (off := 160) (by decide) (by decide) ?_
    refine lv_iconst (v := nI 1) hx hb dX0_numbersFit_161 (by decide) ?_
    exact gs_z F hr hlk dX0_numbersFit_162 (by decide) (by first | rfl | exact isC_are | (simp only [sp_areIn]; skip))
set_option maxHeartbeats 4000000 in
set_option maxRecDepth 100000 in
/-- Act.numbersFit: no such sort -/
theorem c_X0_numbersFitO (l : Launch) (x2 ra rb rc : Int32) (hno : x2 < 0 ∨ nI 12 < x2) : gs l yX0_numbersFit cX0_numbersFit 4 (some .boolean) (rmL 1) [.int x2, .int ra, .int rb, .int rc] (nI 0) := by
  refine gs_of (own := RX0) (by decide) rfl (Nat.le_of_ble_eq_true rfl) ?_
  intro p e s m below meth c ls F hml hr hlk hl
  have hx := F.1
  have hb := F.2.1
  replace hl : lv_has ls 4 [(0, .int x2), (1, .int ra), (2, .int rb), (3, .int rc)] := hl
  refine lv_iload_n hx hb dX0_numbersFit_0 rfl (lv_at hl 0 rfl) ?_
  rcases sw_raw x2 13 with ⟨sw, hsw, esw⟩ | hsw
  · subst esw
    rcases (by omega : sw = 0 ∨ sw = 1 ∨ sw = 2 ∨ sw = 3 ∨ sw = 4 ∨ sw = 5 ∨ sw = 6 ∨ sw = 7 ∨ sw = 8 ∨ sw = 9 ∨ sw = 10 ∨ sw = 11 ∨ sw = 12) with rfl | rfl | rfl | rfl | rfl | rfl | rfl | rfl | rfl | rfl | rfl | rfl | rfl
    · refine lv_tableIn (x := nI 0) (tgt := 68) hx hb dX0_numbersFit_1 (by decide) (by decide) (off := 67) (by decide) (by decide) ?_
      exact absurd hno (by decide)
    · refine lv_tableIn (x := nI 1) (tgt := 73) hx hb dX0_numbersFit_1 (by decide) (by decide) (off := 72) (by decide) (by decide) ?_
      exact absurd hno (by decide)
    · refine lv_tableIn (x := nI 2) (tgt := 73) hx hb dX0_numbersFit_1 (by decide) (by decide) (off := 72) (by decide) (by decide) ?_
      exact absurd hno (by decide)
    · refine lv_tableIn (x := nI 3) (tgt := 73) hx hb dX0_numbersFit_1 (by decide) (by decide) (off := 72) (by decide) (by decide) ?_
      exact absurd hno (by decide)
    · refine lv_tableIn (x := nI 4) (tgt := 68) hx hb dX0_numbersFit_1 (by decide) (by decide) (off := 67) (by decide) (by decide) ?_
      exact absurd hno (by decide)
    · refine lv_tableIn (x := nI 5) (tgt := 93) hx hb dX0_numbersFit_1 (by decide) (by decide) (off := 92) (by decide) (by decide) ?_
      exact absurd hno (by decide)
    · refine lv_tableIn (x := nI 6) (tgt := 93) hx hb dX0_numbersFit_1 (by decide) (by decide) (off := 92) (by decide) (by decide) ?_
      exact absurd hno (by decide)
    · refine lv_tableIn (x := nI 7) (tgt := 113) hx hb dX0_numbersFit_1 (by decide) (by decide) (off := 112) (by decide) (by decide) ?_
      exact absurd hno (by decide)
    · refine lv_tableIn (x := nI 8) (tgt := 161) hx hb dX0_numbersFit_1 (by decide) (by decide) (off := 160) (by decide) (by decide) ?_
      exact absurd hno (by decide)
    · refine lv_tableIn (x := nI 9) (tgt := 118) hx hb dX0_numbersFit_1 (by decide) (by decide) (off := 117) (by decide) (by decide) ?_
      exact absurd hno (by decide)
    · refine lv_tableIn (x := nI 10) (tgt := 161) hx hb dX0_numbersFit_1 (by decide) (by decide) (off := 160) (by decide) (by decide) ?_
      exact absurd hno (by decide)
    · refine lv_tableIn (x := nI 11) (tgt := 133) hx hb dX0_numbersFit_1 (by decide) (by decide) (off := 132) (by decide) (by decide) ?_
      exact absurd hno (by decide)
    · refine lv_tableIn (x := nI 12) (tgt := 161) hx hb dX0_numbersFit_1 (by decide) (by decide) (off := 160) (by decide) (by decide) ?_
      exact absurd hno (by decide)
  · refine lv_tableOut (tgt := 163) hx hb dX0_numbersFit_1 (hsw.1) (by decide) ?_
    refine lv_iconst (v := nI 0) hx hb dX0_numbersFit_163 (by decide) ?_
    exact gs_z F hr hlk dX0_numbersFit_164 (by decide) rfl
set_option maxHeartbeats 4000000 in
set_option maxRecDepth 100000 in
/-- named(..): there -/
theorem c_X6_named3Y (l : Launch) (G : gw_G) (A : Nat → Prop) (adr : Nat → Nat) (n : Nat) (S Y : Nat → Nat → Int32) (L : Int64) (x so z : Nat) (x3 : Int32) (hs : sI n S) (hxn : x < n) (hzn : z < n) (h1 : 1 ≤ so) (h3 : so ≤ 3) : gm l yX6_named cX6_named 5 (some (.object "ClassStarts$Kind")) (rmL 2) 0 0 A [.ref (adr 0), .ref (adr (nk x 0)), .int (nI so), .int x3, .int (nI z)] (gW G A adr (ccel G adr n S Y L)) (gW G A adr (ccel G adr n S Y L)) (some (.ref (adr (nk z 0)))) := by
  refine gm_of (own := RX6) (by decide) rfl (Nat.le_of_ble_eq_true rfl) ?_
  intro p e s m below meth c ls F hml hr hlk hnm hK hR hl
  have hx := F.1
  have hb := F.2.1
  replace hl : lv_has ls 5 [(0, .ref (adr 0)), (1, .ref (adr (nk x 0))), (2, .int (nI so)), (3, .int x3), (4, .int (nI z))] := hl
  have hn12 := hs.1
  have hn0 := hs.2.1
  refine lv_iload_n hx hb dX6_named_0 rfl (lv_at hl 2 rfl) ?_
  rcases (by omega : so = 1 ∨ so = 2 ∨ so = 3) with rfl | rfl | rfl
  · refine lv_tableIn (x := nI 1) (tgt := 48) hx hb dX6_named_1 (by decide) (by decide) (off := 47) (by decide) (by decide) ?_
    refine lv_aload_n hx hb dX6_named_48 rfl (lv_at hl 0 rfl) ?_
    refine lv_iload hx hb dX6_named_49 (lv_at hl 4 rfl) ?_
    refine gcV (As := [.int (nI z)]) F hK hR hml cv_X6_33 (o := 0) (rfl) rfl rfl (c_X6_findY l G A adr n S Y L z hn0 hn12 (by omega)) ⟨rfl, rfl⟩ ⟨Nat.le_of_ble_eq_true rfl, Nat.le_of_ble_eq_true rfl⟩ rfl rfl hl.1 (Nat.le_of_ble_eq_true rfl) dX6_named_51 ⟨Nat.zero_le _, Nat.zero_le _⟩ (fun H locs hR => ?_)
    exact gr_a F hr hlk hK hR dX6_named_54 (Or.inr ⟨_, rfl⟩) rfl rfl
  · refine lv_tableIn (x := nI 2) (tgt := 48) hx hb dX6_named_1 (by decide) (by decide) (off := 47) (by decide) (by decide) ?_
    refine lv_aload_n hx hb dX6_named_48 rfl (lv_at hl 0 rfl) ?_
    refine lv_iload hx hb dX6_named_49 (lv_at hl 4 rfl) ?_
    refine gcV (As := [.int (nI z)]) F hK hR hml cv_X6_33 (o := 0) (rfl) rfl rfl (c_X6_findY l G A adr n S Y L z hn0 hn12 (by omega)) ⟨rfl, rfl⟩ ⟨Nat.le_of_ble_eq_true rfl, Nat.le_of_ble_eq_true rfl⟩ rfl rfl hl.1 (Nat.le_of_ble_eq_true rfl) dX6_named_51 ⟨Nat.zero_le _, Nat.zero_le _⟩ (fun H locs hR => ?_)
    exact gr_a F hr hlk hK hR dX6_named_54 (Or.inr ⟨_, rfl⟩) rfl rfl
  · refine lv_tableIn (x := nI 3) (tgt := 48) hx hb dX6_named_1 (by decide) (by decide) (off := 47) (by decide) (by decide) ?_
    refine lv_aload_n hx hb dX6_named_48 rfl (lv_at hl 0 rfl) ?_
    refine lv_iload hx hb dX6_named_49 (lv_at hl 4 rfl) ?_
    refine gcV (As := [.int (nI z)]) F hK hR hml cv_X6_33 (o := 0) (rfl) rfl rfl (c_X6_findY l G A adr n S Y L z hn0 hn12 (by omega)) ⟨rfl, rfl⟩ ⟨Nat.le_of_ble_eq_true rfl, Nat.le_of_ble_eq_true rfl⟩ rfl rfl hl.1 (Nat.le_of_ble_eq_true rfl) dX6_named_51 ⟨Nat.zero_le _, Nat.zero_le _⟩ (fun H locs hR => ?_)
    exact gr_a F hr hlk hK hR dX6_named_54 (Or.inr ⟨_, rfl⟩) rfl rfl
set_option maxHeartbeats 4000000 in
set_option maxRecDepth 100000 in
/-- named(..): not there -/
theorem c_X6_named3N (l : Launch) (G : gw_G) (A : Nat → Prop) (adr : Nat → Nat) (n : Nat) (S Y : Nat → Nat → Int32) (L : Int64) (x so : Nat) (x3 x4 : Int32) (hs : sI n S) (hxn : x < n) (h1 : 1 ≤ so) (h3 : so ≤ 3) (hno : sp_has (S 0 0) x4 = 0) : gm l yX6_named cX6_named 5 (some (.object "ClassStarts$Kind")) (rmL 2) 0 0 A [.ref (adr 0), .ref (adr (nk x 0)), .int (nI so), .int x3, .int x4] (gW G A adr (ccel G adr n S Y L)) (gW G A adr (ccel G adr n S Y L)) (some (.null)) := by
  refine gm_of (own := RX6) (by decide) rfl (Nat.le_of_ble_eq_true rfl) ?_
  intro p e s m below meth c ls F hml hr hlk hnm hK hR hl
  have hx := F.1
  have hb := F.2.1
  replace hl : lv_has ls 5 [(0, .ref (adr 0)), (1, .ref (adr (nk x 0))), (2, .int (nI so)), (3, .int x3), (4, .int x4)] := hl
  have hn12 := hs.1
  have hn0 := hs.2.1
  refine lv_iload_n hx hb dX6_named_0 rfl (lv_at hl 2 rfl) ?_
  rcases (by omega : so = 1 ∨ so = 2 ∨ so = 3) with rfl | rfl | rfl
  · refine lv_tableIn (x := nI 1) (tgt := 48) hx hb dX6_named_1 (by decide) (by decide) (off := 47) (by decide) (by decide) ?_
    refine lv_aload_n hx hb dX6_named_48 rfl (lv_at hl 0 rfl) ?_
    refine lv_iload hx hb dX6_named_49 (lv_at hl 4 rfl) ?_
    refine gcV (As := [.int x4]) F hK hR hml cv_X6_33 (o := 0) (rfl) rfl rfl (c_X6_findN l G A adr n S Y L x4 hn0 hn12 hno) ⟨rfl, rfl⟩ ⟨Nat.le_of_ble_eq_true rfl, Nat.le_of_ble_eq_true rfl⟩ rfl rfl hl.1 (Nat.le_of_ble_eq_true rfl) dX6_named_51 ⟨Nat.zero_le _, Nat.zero_le _⟩ (fun H locs hR => ?_)
    exact gr_a F hr hlk hK hR dX6_named_54 (Or.inl rfl) rfl rfl
  · refine lv_tableIn (x := nI 2) (tgt := 48) hx hb dX6_named_1 (by decide) (by decide) (off := 47) (by decide) (by decide) ?_
    refine lv_aload_n hx hb dX6_named_48 rfl (lv_at hl 0 rfl) ?_
    refine lv_iload hx hb dX6_named_49 (lv_at hl 4 rfl) ?_
    refine gcV (As := [.int x4]) F hK hR hml cv_X6_33 (o := 0) (rfl) rfl rfl (c_X6_findN l G A adr n S Y L x4 hn0 hn12 hno) ⟨rfl, rfl⟩ ⟨Nat.le_of_ble_eq_true rfl, Nat.le_of_ble_eq_true rfl⟩ rfl rfl hl.1 (Nat.le_of_ble_eq_true rfl) dX6_named_51 ⟨Nat.zero_le _, Nat.zero_le _⟩ (fun H locs hR => ?_)
    exact gr_a F hr hlk hK hR dX6_named_54 (Or.inl rfl) rfl rfl
  · refine lv_tableIn (x := nI 3) (tgt := 48) hx hb dX6_named_1 (by decide) (by decide) (off := 47) (by decide) (by decide) ?_
    refine lv_aload_n hx hb dX6_named_48 rfl (lv_at hl 0 rfl) ?_
    refine lv_iload hx hb dX6_named_49 (lv_at hl 4 rfl) ?_
    refine gcV (As := [.int x4]) F hK hR hml cv_X6_33 (o := 0) (rfl) rfl rfl (c_X6_findN l G A adr n S Y L x4 hn0 hn12 hno) ⟨rfl, rfl⟩ ⟨Nat.le_of_ble_eq_true rfl, Nat.le_of_ble_eq_true rfl⟩ rfl rfl hl.1 (Nat.le_of_ble_eq_true rfl) dX6_named_51 ⟨Nat.zero_le _, Nat.zero_le _⟩ (fun H locs hR => ?_)
    exact gr_a F hr hlk hK hR dX6_named_54 (Or.inl rfl) rfl rfl
set_option maxHeartbeats 4000000 in
set_option maxRecDepth 100000 in
/-- named(..): there -/
theorem c_X6_named7Y (l : Launch) (G : gw_G) (A : Nat → Prop) (adr : Nat → Nat) (n : Nat) (S Y : Nat → Nat → Int32) (L : Int64) (x so z : Nat) (x4 : Int32) (hs : sI n S) (hxn : x < n) (hzn : z < n) (h7 : so = 7 ∨ so = 8) : gm l yX6_named cX6_named 5 (some (.object "ClassStarts$Kind")) (rmL 2) 0 0 A [.ref (adr 0), .ref (adr (nk x 0)), .int (nI so), .int (nI z), .int x4] (gW G A adr (ccel G adr n S Y L)) (gW G A adr (ccel G adr n S Y L)) (some (.ref (adr (nk z 0)))) := by
  refine gm_of (own := RX6) (by decide) rfl (Nat.le_of_ble_eq_true rfl) ?_
  intro p e s m below meth c ls F hml hr hlk hnm hK hR hl
  have hx := F.1
  have hb := F.2.1
  replace hl : lv_has ls 5 [(0, .ref (adr 0)), (1, .ref (adr (nk x 0))), (2, .int (nI so)), (3, .int (nI z)), (4, .int x4)] := hl
  have hn12 := hs.1
  have hn0 := hs.2.1
  refine lv_iload_n hx hb dX6_named_0 rfl (lv_at hl 2 rfl) ?_
  rcases (h7 : so = 7 ∨ so = 8) with rfl | rfl
  · refine lv_tableIn (x := nI 7) (tgt := 55) hx hb dX6_named_1 (by decide) (by decide) (off := 54) (by decide) (by decide) ?_
    refine lv_aload_n hx hb dX6_named_55 rfl (lv_at hl 0 rfl) ?_
    refine lv_iload_n hx hb dX6_named_56 rfl (lv_at hl 3 rfl) ?_
    refine gcV (As := [.int (nI z)]) F hK hR hml cv_X6_33 (o := 0) (rfl) rfl rfl (c_X6_findY l G A adr n S Y L z hn0 hn12 (by omega)) ⟨rfl, rfl⟩ ⟨Nat.le_of_ble_eq_true rfl, Nat.le_of_ble_eq_true rfl⟩ rfl rfl hl.1 (Nat.le_of_ble_eq_true rfl) dX6_named_57 ⟨Nat.zero_le _, Nat.zero_le _⟩ (fun H locs hR => ?_)
    exact gr_a F hr hlk hK hR dX6_named_60 (Or.inr ⟨_, rfl⟩) rfl rfl
  · refine lv_tableIn (x := nI 8) (tgt := 55) hx hb dX6_named_1 (by decide) (by decide) (off := 54) (by decide) (by decide) ?_
    refine lv_aload_n hx hb dX6_named_55 rfl (lv_at hl 0 rfl) ?_
    refine lv_iload_n hx hb dX6_named_56 rfl (lv_at hl 3 rfl) ?_
    refine gcV (As := [.int (nI z)]) F hK hR hml cv_X6_33 (o := 0) (rfl) rfl rfl (c_X6_findY l G A adr n S Y L z hn0 hn12 (by omega)) ⟨rfl, rfl⟩ ⟨Nat.le_of_ble_eq_true rfl, Nat.le_of_ble_eq_true rfl⟩ rfl rfl hl.1 (Nat.le_of_ble_eq_true rfl) dX6_named_57 ⟨Nat.zero_le _, Nat.zero_le _⟩ (fun H locs hR => ?_)
    exact gr_a F hr hlk hK hR dX6_named_60 (Or.inr ⟨_, rfl⟩) rfl rfl
set_option maxHeartbeats 4000000 in
set_option maxRecDepth 100000 in
/-- named(..): not there -/
theorem c_X6_named7N (l : Launch) (G : gw_G) (A : Nat → Prop) (adr : Nat → Nat) (n : Nat) (S Y : Nat → Nat → Int32) (L : Int64) (x so : Nat) (x3 x4 : Int32) (hs : sI n S) (hxn : x < n) (h7 : so = 7 ∨ so = 8) (hno : sp_has (S 0 0) x3 = 0) : gm l yX6_named cX6_named 5 (some (.object "ClassStarts$Kind")) (rmL 2) 0 0 A [.ref (adr 0), .ref (adr (nk x 0)), .int (nI so), .int x3, .int x4] (gW G A adr (ccel G adr n S Y L)) (gW G A adr (ccel G adr n S Y L)) (some (.null)) := by
  refine gm_of (own := RX6) (by decide) rfl (Nat.le_of_ble_eq_true rfl) ?_
  intro p e s m below meth c ls F hml hr hlk hnm hK hR hl
  have hx := F.1
  have hb := F.2.1
  replace hl : lv_has ls 5 [(0, .ref (adr 0)), (1, .ref (adr (nk x 0))), (2, .int (nI so)), (3, .int x3), (4, .int x4)] := hl
  have hn12 := hs.1
  have hn0 := hs.2.1
  refine lv_iload_n hx hb dX6_named_0 rfl (lv_at hl 2 rfl) ?_
  rcases (h7 : so = 7 ∨ so = 8) with rfl | rfl
  · refine lv_tableIn (x := nI 7) (tgt := 55) hx hb dX6_named_1 (by decide) (by decide) (off := 54) (by decide) (by decide) ?_
    refine lv_aload_n hx hb dX6_named_55 rfl (lv_at hl 0 rfl) ?_
    refine lv_iload_n hx hb dX6_named_56 rfl (lv_at hl 3 rfl) ?_
    refine gcV (As := [.int x3]) F hK hR hml cv_X6_33 (o := 0) (rfl) rfl rfl (c_X6_findN l G A adr n S Y L x3 hn0 hn12 hno) ⟨rfl, rfl⟩ ⟨Nat.le_of_ble_eq_true rfl, Nat.le_of_ble_eq_true rfl⟩ rfl rfl hl.1 (Nat.le_of_ble_eq_true rfl) dX6_named_57 ⟨Nat.zero_le _, Nat.zero_le _⟩ (fun H locs hR => ?_)
    exact gr_a F hr hlk hK hR dX6_named_60 (Or.inl rfl) rfl rfl
  · refine lv_tableIn (x := nI 8) (tgt := 55) hx hb dX6_named_1 (by decide) (by decide) (off := 54) (by decide) (by decide) ?_
    refine lv_aload_n hx hb dX6_named_55 rfl (lv_at hl 0 rfl) ?_
    refine lv_iload_n hx hb dX6_named_56 rfl (lv_at hl 3 rfl) ?_
    refine gcV (As := [.int x3]) F hK hR hml cv_X6_33 (o := 0) (rfl) rfl rfl (c_X6_findN l G A adr n S Y L x3 hn0 hn12 hno) ⟨rfl, rfl⟩ ⟨Nat.le_of_ble_eq_true rfl, Nat.le_of_ble_eq_true rfl⟩ rfl rfl hl.1 (Nat.le_of_ble_eq_true rfl) dX6_named_57 ⟨Nat.zero_le _, Nat.zero_le _⟩ (fun H locs hR => ?_)
    exact gr_a F hr hlk hK hR dX6_named_60 (Or.inl rfl) rfl rfl
set_option maxHeartbeats 4000000 in
set_option maxRecDepth 100000 in
/-- named(..): its own -/
theorem c_X6_named0 (l : Launch) (G : gw_G) (A : Nat → Prop) (adr : Nat → Nat) (n : Nat) (S Y : Nat → Nat → Int32) (L : Int64) (x : Nat) (x2 x3 x4 : Int32) (hs : sI n S) (hxn : x < n) (hno : ∀ j, (1 ≤ j ∧ j ≤ 3) ∨ j = 7 ∨ j = 8 → ¬ x2 = nI j) : gm l yX6_named cX6_named 5 (some (.object "ClassStarts$Kind")) (rmL 2) 0 0 A [.ref (adr 0), .ref (adr (nk x 0)), .int x2, .int x3, .int x4] (gW G A adr (ccel G adr n S Y L)) (gW G A adr (ccel G adr n S Y L)) (some (.ref (adr (nk x 0)))) := by
  refine gm_of (own := RX6) (by decide) rfl (Nat.le_of_ble_eq_true rfl) ?_
  intro p e s m below meth c ls F hml hr hlk hnm hK hR hl
  have hx := F.1
  have hb := F.2.1
  replace hl : lv_has ls 5 [(0, .ref (adr 0)), (1, .ref (adr (nk x 0))), (2, .int x2), (3, .int x3), (4, .int x4)] := hl
  have hn12 := hs.1
  have hn0 := hs.2.1
  refine lv_iload_n hx hb dX6_named_0 rfl (lv_at hl 2 rfl) ?_
  rcases sw_raw x2 9 with ⟨sw, hsw, esw⟩ | hsw
  · subst esw
    rcases (by omega : sw = 0 ∨ sw = 1 ∨ sw = 2 ∨ sw = 3 ∨ sw = 4 ∨ sw = 5 ∨ sw = 6 ∨ sw = 7 ∨ sw = 8) with rfl | rfl | rfl | rfl | rfl | rfl | rfl | rfl | rfl
    · refine lv_tableOut (x := nI 0) (tgt := 61) hx hb dX6_named_1 (by decide) (by decide) ?_
      refine lv_aload_n hx hb dX6_named_61 rfl (lv_at hl 1 rfl) ?_
      exact gr_a F hr hlk hK hR dX6_named_62 (Or.inr ⟨_, rfl⟩) rfl rfl
    · refine lv_tableIn (x := nI 1) (tgt := 48) hx hb dX6_named_1 (by decide) (by decide) (off := 47) (by decide) (by decide) ?_
      exact absurd rfl (hno 1 (by omega))
    · refine lv_tableIn (x := nI 2) (tgt := 48) hx hb dX6_named_1 (by decide) (by decide) (off := 47) (by decide) (by decide) ?_
      exact absurd rfl (hno 2 (by omega))
    · refine lv_tableIn (x := nI 3) (tgt := 48) hx hb dX6_named_1 (by decide) (by decide) (off := 47) (by decide) (by decide) ?_
      exact absurd rfl (hno 3 (by omega))
    · refine lv_tableIn (x := nI 4) (tgt := 61) hx hb dX6_named_1 (by decide) (by decide) (off := 60) (by decide) (by decide) ?_
      refine lv_aload_n hx hb dX6_named_61 rfl (lv_at hl 1 rfl) ?_
      exact gr_a F hr hlk hK hR dX6_named_62 (Or.inr ⟨_, rfl⟩) rfl rfl
    · refine lv_tableIn (x := nI 5) (tgt := 61) hx hb dX6_named_1 (by decide) (by decide) (off := 60) (by decide) (by decide) ?_
      refine lv_aload_n hx hb dX6_named_61 rfl (lv_at hl 1 rfl) ?_
      exact gr_a F hr hlk hK hR dX6_named_62 (Or.inr ⟨_, rfl⟩) rfl rfl
    · refine lv_tableIn (x := nI 6) (tgt := 61) hx hb dX6_named_1 (by decide) (by decide) (off := 60) (by decide) (by decide) ?_
      refine lv_aload_n hx hb dX6_named_61 rfl (lv_at hl 1 rfl) ?_
      exact gr_a F hr hlk hK hR dX6_named_62 (Or.inr ⟨_, rfl⟩) rfl rfl
    · refine lv_tableIn (x := nI 7) (tgt := 55) hx hb dX6_named_1 (by decide) (by decide) (off := 54) (by decide) (by decide) ?_
      exact absurd rfl (hno 7 (by omega))
    · refine lv_tableIn (x := nI 8) (tgt := 55) hx hb dX6_named_1 (by decide) (by decide) (off := 54) (by decide) (by decide) ?_
      exact absurd rfl (hno 8 (by omega))
  · refine lv_tableOut (tgt := 61) hx hb dX6_named_1 (by have := hsw.1; omega) (by decide) ?_
    refine lv_aload_n hx hb dX6_named_61 rfl (lv_at hl 1 rfl) ?_
    exact gr_a F hr hlk hK hR dX6_named_62 (Or.inr ⟨_, rfl⟩) rfl rfl
/-- the one that an act of x names is z -/
def nmZ (x z : Nat) (x2 x3 x4 : Int32) : Prop := (∃ so, 1 ≤ so ∧ so ≤ 3 ∧ x2 = nI so ∧ x4 = nI z) ∨ (∃ so, (so = 7 ∨ so = 8) ∧ x2 = nI so ∧ x3 = nI z) ∨ ((∀ j, (1 ≤ j ∧ j ≤ 3) ∨ j = 7 ∨ j = 8 → ¬ x2 = nI j) ∧ z = x)
theorem c_X6_namedZ (l : Launch) (G : gw_G) (A : Nat → Prop) (adr : Nat → Nat) (n : Nat) (S Y : Nat → Nat → Int32) (L : Int64) (x z : Nat) (x2 x3 x4 : Int32) (hs : sI n S) (hxn : x < n) (hzn : z < n) (hZ : nmZ x z x2 x3 x4) : gm l yX6_named cX6_named 5 (some (.object "ClassStarts$Kind")) (rmL 2) 0 0 A [.ref (adr 0), .ref (adr (nk x 0)), .int x2, .int x3, .int x4] (gW G A adr (ccel G adr n S Y L)) (gW G A adr (ccel G adr n S Y L)) (some (.ref (adr (nk z 0)))) := by
  rcases hZ with ⟨so, h1, h3, rfl, rfl⟩ | ⟨so, h7, rfl, rfl⟩ | ⟨h, rfl⟩
  · exact c_X6_named3Y l G A adr n S Y L x so z x3 hs hxn hzn h1 h3
  · exact c_X6_named7Y l G A adr n S Y L x so z x4 hs hxn hzn h7
  · exact c_X6_named0 l G A adr n S Y L z x2 x3 x4 hs hxn h
set_option maxHeartbeats 4000000 in
set_option maxRecDepth 100000 in
/-- act: no such x -/
theorem c_X6_actU (l : Launch) (G : gw_G) (A : Nat → Prop) (adr : Nat → Nat) (n : Nat) (S Y : Nat → Nat → Int32) (L : Int64) (x0 x1 x2 x3 x4 x5 : Int32) (hs : sI n S) (h0 : sp_has (S 0 0) x0 = 0) : gm l yX6_act cX6_act 9 (some .int) (rmL 4) 0 0 A [.ref (adr 0), .int x0, .int x1, .int x2, .int x3, .int x4, .int x5] (gW G A adr (ccel G adr n S Y L)) (gW G A adr (ccel G adr n S Y L)) (some (.int (-2))) := by
  refine gm_of (own := RX6) (by decide) rfl (Nat.le_of_ble_eq_true rfl) ?_
  intro p e s m below meth c ls F hml hr hlk hnm hK hR hl
  have hx := F.1
  have hb := F.2.1
  replace hl : lv_has ls 9 [(0, .ref (adr 0)), (1, .int x0), (2, .int x1), (3, .int x2), (4, .int x3), (5, .int x4), (6, .int x5)] := hl
  have hn12 := hs.1
  have hn0 := hs.2.1
  refine lv_aload_n hx hb dX6_act_0 rfl (lv_at hl 0 rfl) ?_
  refine lv_iload_n hx hb dX6_act_1 rfl (lv_at hl 1 rfl) ?_
  refine gcV (As := [.int x0]) F hK hR hml cv_X6_33 (o := 0) (rfl) rfl rfl (c_X6_findN l G A adr n S Y L x0 hn0 hn12 h0) ⟨rfl, rfl⟩ ⟨Nat.le_of_ble_eq_true rfl, Nat.le_of_ble_eq_true rfl⟩ rfl rfl hl.1 (Nat.le_of_ble_eq_true rfl) dX6_act_2 ⟨Nat.zero_le _, Nat.zero_le _⟩ (fun H locs hR => ?_)
  refine lv_astoreN (lv' := [(7, .null), (0, .ref (adr 0)), (1, .int x0), (2, .int x1), (3, .int x2), (4, .int x3), (5, .int x4), (6, .int x5)]) hx hb dX6_act_5 hl (by decide) rfl (fun ls hl => ?_)
  refine lv_aloadN hx hb dX6_act_7 (lv_at hl 0 rfl) ?_
  refine lv_ifnonnullN hx hb dX6_act_9 ?_
  refine lv_bipush (v := (-2)) hx hb dX6_act_12 (by decide) ?_
  exact gr_i F hr hlk hK hR dX6_act_14 (rfl) (rfl)
set_option maxHeartbeats 4000000 in
set_option maxRecDepth 100000 in
/-- act: names none -/
theorem c_X6_actB3 (l : Launch) (G : gw_G) (A : Nat → Prop) (adr : Nat → Nat) (n : Nat) (S Y : Nat → Nat → Int32) (L : Int64) (x so : Nat) (x1 x3 x4 x5 : Int32) (hs : sI n S) (hxn : x < n) (h1 : 1 ≤ so) (h3 : so ≤ 3) (hno : sp_has (S 0 0) x4 = 0) : gm l yX6_act cX6_act 9 (some .int) (rmL 4) 0 0 A [.ref (adr 0), .int (nI x), .int x1, .int (nI so), .int x3, .int x4, .int x5] (gW G A adr (ccel G adr n S Y L)) (gW G A adr (ccel G adr n S Y L)) (some (.int (-2))) := by
  refine gm_of (own := RX6) (by decide) rfl (Nat.le_of_ble_eq_true rfl) ?_
  intro p e s m below meth c ls F hml hr hlk hnm hK hR hl
  have hx := F.1
  have hb := F.2.1
  replace hl : lv_has ls 9 [(0, .ref (adr 0)), (1, .int (nI x)), (2, .int x1), (3, .int (nI so)), (4, .int x3), (5, .int x4), (6, .int x5)] := hl
  have hn12 := hs.1
  have hn0 := hs.2.1
  refine lv_aload_n hx hb dX6_act_0 rfl (lv_at hl 0 rfl) ?_
  refine lv_iload_n hx hb dX6_act_1 rfl (lv_at hl 1 rfl) ?_
  refine gcV (As := [.int (nI x)]) F hK hR hml cv_X6_33 (o := 0) (rfl) rfl rfl (c_X6_findY l G A adr n S Y L x hn0 hn12 (by omega)) ⟨rfl, rfl⟩ ⟨Nat.le_of_ble_eq_true rfl, Nat.le_of_ble_eq_true rfl⟩ rfl rfl hl.1 (Nat.le_of_ble_eq_true rfl) dX6_act_2 ⟨Nat.zero_le _, Nat.zero_le _⟩ (fun H locs hR => ?_)
  refine lv_astore (lv' := [(7, .ref (adr (nk x 0))), (0, .ref (adr 0)), (1, .int (nI x)), (2, .int x1), (3, .int (nI so)), (4, .int x3), (5, .int x4), (6, .int x5)]) hx hb dX6_act_5 hl (by decide) rfl (fun ls hl => ?_)
  refine lv_aload hx hb dX6_act_7 (lv_at hl 0 rfl) ?_
  refine lv_ifnonnull (tgt := 15) hx hb dX6_act_9 (by decide) ?_
  refine lv_aload_n hx hb dX6_act_15 rfl (lv_at hl 1 rfl) ?_
  refine lv_aload hx hb dX6_act_16 (lv_at hl 0 rfl) ?_
  refine lv_iload_n hx hb dX6_act_18 rfl (lv_at hl 4 rfl) ?_
  refine lv_iload hx hb dX6_act_19 (lv_at hl 5 rfl) ?_
  refine lv_iload hx hb dX6_act_21 (lv_at hl 6 rfl) ?_
  refine gcV (As := [.ref (adr (nk x 0)), .int (nI so), .int x3, .int x4]) F hK hR hml cv_X6_69 (o := 0) (rfl) rfl rfl (c_X6_named3N l G A adr n S Y L x so x3 x4 hs hxn h1 h3 hno) ⟨rfl, rfl⟩ ⟨Nat.le_of_ble_eq_true rfl, Nat.le_of_ble_eq_true rfl⟩ rfl rfl hl.1 (Nat.le_of_ble_eq_true rfl) dX6_act_23 ⟨Nat.zero_le _, Nat.zero_le _⟩ (fun H locs hR => ?_)
  refine lv_astoreN (lv' := [(8, .null), (7, .ref (adr (nk x 0))), (0, .ref (adr 0)), (1, .int (nI x)), (2, .int x1), (3, .int (nI so)), (4, .int x3), (5, .int x4), (6, .int x5)]) hx hb dX6_act_26 hl (by decide) rfl (fun ls hl => ?_)
  refine lv_aloadN hx hb dX6_act_28 (lv_at hl 0 rfl) ?_
  refine lv_ifnonnullN hx hb dX6_act_30 ?_
  refine lv_bipush (v := (-2)) hx hb dX6_act_33 (by decide) ?_
  exact gr_i F hr hlk hK hR dX6_act_35 (rfl) (rfl)
set_option maxHeartbeats 4000000 in
set_option maxRecDepth 100000 in
/-- act: names none -/
theorem c_X6_actB7 (l : Launch) (G : gw_G) (A : Nat → Prop) (adr : Nat → Nat) (n : Nat) (S Y : Nat → Nat → Int32) (L : Int64) (x so : Nat) (x1 x3 x4 x5 : Int32) (hs : sI n S) (hxn : x < n) (h7 : so = 7 ∨ so = 8) (hno : sp_has (S 0 0) x3 = 0) : gm l yX6_act cX6_act 9 (some .int) (rmL 4) 0 0 A [.ref (adr 0), .int (nI x), .int x1, .int (nI so), .int x3, .int x4, .int x5] (gW G A adr (ccel G adr n S Y L)) (gW G A adr (ccel G adr n S Y L)) (some (.int (-2))) := by
  refine gm_of (own := RX6) (by decide) rfl (Nat.le_of_ble_eq_true rfl) ?_
  intro p e s m below meth c ls F hml hr hlk hnm hK hR hl
  have hx := F.1
  have hb := F.2.1
  replace hl : lv_has ls 9 [(0, .ref (adr 0)), (1, .int (nI x)), (2, .int x1), (3, .int (nI so)), (4, .int x3), (5, .int x4), (6, .int x5)] := hl
  have hn12 := hs.1
  have hn0 := hs.2.1
  refine lv_aload_n hx hb dX6_act_0 rfl (lv_at hl 0 rfl) ?_
  refine lv_iload_n hx hb dX6_act_1 rfl (lv_at hl 1 rfl) ?_
  refine gcV (As := [.int (nI x)]) F hK hR hml cv_X6_33 (o := 0) (rfl) rfl rfl (c_X6_findY l G A adr n S Y L x hn0 hn12 (by omega)) ⟨rfl, rfl⟩ ⟨Nat.le_of_ble_eq_true rfl, Nat.le_of_ble_eq_true rfl⟩ rfl rfl hl.1 (Nat.le_of_ble_eq_true rfl) dX6_act_2 ⟨Nat.zero_le _, Nat.zero_le _⟩ (fun H locs hR => ?_)
  refine lv_astore (lv' := [(7, .ref (adr (nk x 0))), (0, .ref (adr 0)), (1, .int (nI x)), (2, .int x1), (3, .int (nI so)), (4, .int x3), (5, .int x4), (6, .int x5)]) hx hb dX6_act_5 hl (by decide) rfl (fun ls hl => ?_)
  refine lv_aload hx hb dX6_act_7 (lv_at hl 0 rfl) ?_
  refine lv_ifnonnull (tgt := 15) hx hb dX6_act_9 (by decide) ?_
  refine lv_aload_n hx hb dX6_act_15 rfl (lv_at hl 1 rfl) ?_
  refine lv_aload hx hb dX6_act_16 (lv_at hl 0 rfl) ?_
  refine lv_iload_n hx hb dX6_act_18 rfl (lv_at hl 4 rfl) ?_
  refine lv_iload hx hb dX6_act_19 (lv_at hl 5 rfl) ?_
  refine lv_iload hx hb dX6_act_21 (lv_at hl 6 rfl) ?_
  refine gcV (As := [.ref (adr (nk x 0)), .int (nI so), .int x3, .int x4]) F hK hR hml cv_X6_69 (o := 0) (rfl) rfl rfl (c_X6_named7N l G A adr n S Y L x so x3 x4 hs hxn h7 hno) ⟨rfl, rfl⟩ ⟨Nat.le_of_ble_eq_true rfl, Nat.le_of_ble_eq_true rfl⟩ rfl rfl hl.1 (Nat.le_of_ble_eq_true rfl) dX6_act_23 ⟨Nat.zero_le _, Nat.zero_le _⟩ (fun H locs hR => ?_)
  refine lv_astoreN (lv' := [(8, .null), (7, .ref (adr (nk x 0))), (0, .ref (adr 0)), (1, .int (nI x)), (2, .int x1), (3, .int (nI so)), (4, .int x3), (5, .int x4), (6, .int x5)]) hx hb dX6_act_26 hl (by decide) rfl (fun ls hl => ?_)
  refine lv_aloadN hx hb dX6_act_28 (lv_at hl 0 rfl) ?_
  refine lv_ifnonnullN hx hb dX6_act_30 ?_
  refine lv_bipush (v := (-2)) hx hb dX6_act_33 (by decide) ?_
  exact gr_i F hr hlk hK hR dX6_act_35 (rfl) (rfl)
set_option maxHeartbeats 4000000 in
set_option maxRecDepth 100000 in
/-- act: no such method -/
theorem c_X6_actM (l : Launch) (G : gw_G) (A : Nat → Prop) (adr : Nat → Nat) (n : Nat) (S Y : Nat → Nat → Int32) (L : Int64) (x z : Nat) (x1 x2 x3 x4 x5 : Int32) (hs : sI n S) (hxn : x < n) (hzn : z < n) (hZ : nmZ x z x2 x3 x4) (hm : sp_isF x1 = 0) : gm l yX6_act cX6_act 9 (some .int) (rmL 4) 0 0 A [.ref (adr 0), .int (nI x), .int x1, .int x2, .int x3, .int x4, .int x5] (gW G A adr (ccel G adr n S Y L)) (gW G A adr (ccel G adr n S Y L)) (some (.int (-3))) := by
  refine gm_of (own := RX6) (by decide) rfl (Nat.le_of_ble_eq_true rfl) ?_
  intro p e s m below meth c ls F hml hr hlk hnm hK hR hl
  have hx := F.1
  have hb := F.2.1
  replace hl : lv_has ls 9 [(0, .ref (adr 0)), (1, .int (nI x)), (2, .int x1), (3, .int x2), (4, .int x3), (5, .int x4), (6, .int x5)] := hl
  have hn12 := hs.1
  have hn0 := hs.2.1
  refine lv_aload_n hx hb dX6_act_0 rfl (lv_at hl 0 rfl) ?_
  refine lv_iload_n hx hb dX6_act_1 rfl (lv_at hl 1 rfl) ?_
  refine gcV (As := [.int (nI x)]) F hK hR hml cv_X6_33 (o := 0) (rfl) rfl rfl (c_X6_findY l G A adr n S Y L x hn0 hn12 (by omega)) ⟨rfl, rfl⟩ ⟨Nat.le_of_ble_eq_true rfl, Nat.le_of_ble_eq_true rfl⟩ rfl rfl hl.1 (Nat.le_of_ble_eq_true rfl) dX6_act_2 ⟨Nat.zero_le _, Nat.zero_le _⟩ (fun H locs hR => ?_)
  refine lv_astore (lv' := [(7, .ref (adr (nk x 0))), (0, .ref (adr 0)), (1, .int (nI x)), (2, .int x1), (3, .int x2), (4, .int x3), (5, .int x4), (6, .int x5)]) hx hb dX6_act_5 hl (by decide) rfl (fun ls hl => ?_)
  refine lv_aload hx hb dX6_act_7 (lv_at hl 0 rfl) ?_
  refine lv_ifnonnull (tgt := 15) hx hb dX6_act_9 (by decide) ?_
  refine lv_aload_n hx hb dX6_act_15 rfl (lv_at hl 1 rfl) ?_
  refine lv_aload hx hb dX6_act_16 (lv_at hl 0 rfl) ?_
  refine lv_iload_n hx hb dX6_act_18 rfl (lv_at hl 4 rfl) ?_
  refine lv_iload hx hb dX6_act_19 (lv_at hl 5 rfl) ?_
  refine lv_iload hx hb dX6_act_21 (lv_at hl 6 rfl) ?_
  refine gcV (As := [.ref (adr (nk x 0)), .int x2, .int x3, .int x4]) F hK hR hml cv_X6_69 (o := 0) (rfl) rfl rfl (c_X6_namedZ l G A adr n S Y L x z x2 x3 x4 hs hxn hzn hZ) ⟨rfl, rfl⟩ ⟨Nat.le_of_ble_eq_true rfl, Nat.le_of_ble_eq_true rfl⟩ rfl rfl hl.1 (Nat.le_of_ble_eq_true rfl) dX6_act_23 ⟨Nat.zero_le _, Nat.zero_le _⟩ (fun H locs hR => ?_)
  refine lv_astore (lv' := [(8, .ref (adr (nk z 0))), (7, .ref (adr (nk x 0))), (0, .ref (adr 0)), (1, .int (nI x)), (2, .int x1), (3, .int x2), (4, .int x3), (5, .int x4), (6, .int x5)]) hx hb dX6_act_26 hl (by decide) rfl (fun ls hl => ?_)
  refine lv_aload hx hb dX6_act_28 (lv_at hl 0 rfl) ?_
  refine lv_ifnonnull (tgt := 36) hx hb dX6_act_30 (by decide) ?_
  refine lv_iload_n hx hb dX6_act_36 rfl (lv_at hl 4 rfl) ?_
  refine gcS (As := [.int x1]) F hml cs_X6_73 (c_X2_isMethod l x1) ⟨rfl, rfl⟩ ⟨Nat.le_of_ble_eq_true rfl, Nat.le_of_ble_eq_true rfl⟩ rfl rfl hl.1 (Nat.le_of_ble_eq_true rfl) dX6_act_37 ⟨Nat.zero_le _, Nat.zero_le _⟩ ?_
  refine lv_if_eq (tgt := 56) hx hb dX6_act_40 (by decide) (fun c_40 => ?_) (fun c_40 => absurd hm c_40)
  refine lv_bipush (v := (-3)) hx hb dX6_act_56 (by decide) ?_
  exact gr_i F hr hlk hK hR dX6_act_58 (rfl) (rfl)
set_option maxHeartbeats 4000000 in
set_option maxRecDepth 100000 in
/-- act: no such sort -/
theorem c_X6_actS (l : Launch) (G : gw_G) (A : Nat → Prop) (adr : Nat → Nat) (n : Nat) (S Y : Nat → Nat → Int32) (L : Int64) (x z q : Nat) (x2 x3 x4 x5 : Int32) (hs : sI n S) (hxn : x < n) (hzn : z < n) (hZ : nmZ x z x2 x3 x4) (hq : q < 4) (hno : x2 < 0 ∨ nI 12 < x2) : gm l yX6_act cX6_act 9 (some .int) (rmL 4) 0 0 A [.ref (adr 0), .int (nI x), .int (nI q), .int x2, .int x3, .int x4, .int x5] (gW G A adr (ccel G adr n S Y L)) (gW G A adr (ccel G adr n S Y L)) (some (.int (-3))) := by
  refine gm_of (own := RX6) (by decide) rfl (Nat.le_of_ble_eq_true rfl) ?_
  intro p e s m below meth c ls F hml hr hlk hnm hK hR hl
  have hx := F.1
  have hb := F.2.1
  replace hl : lv_has ls 9 [(0, .ref (adr 0)), (1, .int (nI x)), (2, .int (nI q)), (3, .int x2), (4, .int x3), (5, .int x4), (6, .int x5)] := hl
  have hn12 := hs.1
  have hn0 := hs.2.1
  refine lv_aload_n hx hb dX6_act_0 rfl (lv_at hl 0 rfl) ?_
  refine lv_iload_n hx hb dX6_act_1 rfl (lv_at hl 1 rfl) ?_
  refine gcV (As := [.int (nI x)]) F hK hR hml cv_X6_33 (o := 0) (rfl) rfl rfl (c_X6_findY l G A adr n S Y L x hn0 hn12 (by omega)) ⟨rfl, rfl⟩ ⟨Nat.le_of_ble_eq_true rfl, Nat.le_of_ble_eq_true rfl⟩ rfl rfl hl.1 (Nat.le_of_ble_eq_true rfl) dX6_act_2 ⟨Nat.zero_le _, Nat.zero_le _⟩ (fun H locs hR => ?_)
  refine lv_astore (lv' := [(7, .ref (adr (nk x 0))), (0, .ref (adr 0)), (1, .int (nI x)), (2, .int (nI q)), (3, .int x2), (4, .int x3), (5, .int x4), (6, .int x5)]) hx hb dX6_act_5 hl (by decide) rfl (fun ls hl => ?_)
  refine lv_aload hx hb dX6_act_7 (lv_at hl 0 rfl) ?_
  refine lv_ifnonnull (tgt := 15) hx hb dX6_act_9 (by decide) ?_
  refine lv_aload_n hx hb dX6_act_15 rfl (lv_at hl 1 rfl) ?_
  refine lv_aload hx hb dX6_act_16 (lv_at hl 0 rfl) ?_
  refine lv_iload_n hx hb dX6_act_18 rfl (lv_at hl 4 rfl) ?_
  refine lv_iload hx hb dX6_act_19 (lv_at hl 5 rfl) ?_
  refine lv_iload hx hb dX6_act_21 (lv_at hl 6 rfl) ?_
  refine gcV (As := [.ref (adr (nk x 0)), .int x2, .int x3, .int x4]) F hK hR hml cv_X6_69 (o := 0) (rfl) rfl rfl (c_X6_namedZ l G A adr n S Y L x z x2 x3 x4 hs hxn hzn hZ) ⟨rfl, rfl⟩ ⟨Nat.le_of_ble_eq_true rfl, Nat.le_of_ble_eq_true rfl⟩ rfl rfl hl.1 (Nat.le_of_ble_eq_true rfl) dX6_act_23 ⟨Nat.zero_le _, Nat.zero_le _⟩ (fun H locs hR => ?_)
  refine lv_astore (lv' := [(8, .ref (adr (nk z 0))), (7, .ref (adr (nk x 0))), (0, .ref (adr 0)), (1, .int (nI x)), (2, .int (nI q)), (3, .int x2), (4, .int x3), (5, .int x4), (6, .int x5)]) hx hb dX6_act_26 hl (by decide) rfl (fun ls hl => ?_)
  refine lv_aload hx hb dX6_act_28 (lv_at hl 0 rfl) ?_
  refine lv_ifnonnull (tgt := 36) hx hb dX6_act_30 (by decide) ?_
  refine lv_iload_n hx hb dX6_act_36 rfl (lv_at hl 4 rfl) ?_
  refine gcS (As := [.int (nI q)]) F hml cs_X6_73 (c_X2_isMethod l (nI q)) ⟨rfl, rfl⟩ ⟨Nat.le_of_ble_eq_true rfl, Nat.le_of_ble_eq_true rfl⟩ rfl rfl hl.1 (Nat.le_of_ble_eq_true rfl) dX6_act_37 ⟨Nat.zero_le _, Nat.zero_le _⟩ ?_
  refine lv_if_eq (tgt := 56) hx hb dX6_act_40 (by decide) (fun c_40 => absurd c_40 (by rw [isF_nI hq]; decide)) (fun c_40 => ?_)
  refine lv_iload_n hx hb dX6_act_43 rfl (lv_at hl 5 rfl) ?_
  refine lv_iload hx hb dX6_act_44 (lv_at hl 6 rfl) ?_
  refine lv_iload hx hb dX6_act_46 (lv_at hl 7 rfl) ?_
  refine lv_iload hx hb dX6_act_48 (lv_at hl 8 rfl) ?_
  refine gcS (As := [.int x2, .int x3, .int x4, .int x5]) F hml cs_X6_76 (c_X0_numbersFitO l x2 x3 x4 x5 hno) ⟨rfl, rfl⟩ ⟨Nat.le_of_ble_eq_true rfl, Nat.le_of_ble_eq_true rfl⟩ rfl rfl hl.1 (Nat.le_of_ble_eq_true rfl) dX6_act_50 ⟨Nat.zero_le _, Nat.zero_le _⟩ ?_
  refine nv_if_ne (by omega) hx hb dX6_act_53 (tgt := 59) (by decide) (fun c_53 => absurd c_53 (by omega)) (fun c_53 => ?_)
  refine lv_bipush (v := (-3)) hx hb dX6_act_56 (by decide) ?_
  exact gr_i F hr hlk hK hR dX6_act_58 (rfl) (rfl)
set_option maxHeartbeats 4000000 in
set_option maxRecDepth 100000 in
/-- act: numbers that do not fit -/
theorem c_X6_actN (l : Launch) (G : gw_G) (A : Nat → Prop) (adr : Nat → Nat) (n : Nat) (S Y : Nat → Nat → Int32) (L : Int64) (x z q so : Nat) (x3 x4 x5 : Int32) (hs : sI n S) (hxn : x < n) (hzn : z < n) (hZ : nmZ x z (nI so) x3 x4) (hq : q < 4) (hso : so ≤ 12) (hno : sp_areIn so x3 x4 x5 = 0) : gm l yX6_act cX6_act 9 (some .int) (rmL 4) 0 0 A [.ref (adr 0), .int (nI x), .int (nI q), .int (nI so), .int x3, .int x4, .int x5] (gW G A adr (ccel G adr n S Y L)) (gW G A adr (ccel G adr n S Y L)) (some (.int (-3))) := by
  refine gm_of (own := RX6) (by decide) rfl (Nat.le_of_ble_eq_true rfl) ?_
  intro p e s m below meth c ls F hml hr hlk hnm hK hR hl
  have hx := F.1
  have hb := F.2.1
  replace hl : lv_has ls 9 [(0, .ref (adr 0)), (1, .int (nI x)), (2, .int (nI q)), (3, .int (nI so)), (4, .int x3), (5, .int x4), (6, .int x5)] := hl
  have hn12 := hs.1
  have hn0 := hs.2.1
  refine lv_aload_n hx hb dX6_act_0 rfl (lv_at hl 0 rfl) ?_
  refine lv_iload_n hx hb dX6_act_1 rfl (lv_at hl 1 rfl) ?_
  refine gcV (As := [.int (nI x)]) F hK hR hml cv_X6_33 (o := 0) (rfl) rfl rfl (c_X6_findY l G A adr n S Y L x hn0 hn12 (by omega)) ⟨rfl, rfl⟩ ⟨Nat.le_of_ble_eq_true rfl, Nat.le_of_ble_eq_true rfl⟩ rfl rfl hl.1 (Nat.le_of_ble_eq_true rfl) dX6_act_2 ⟨Nat.zero_le _, Nat.zero_le _⟩ (fun H locs hR => ?_)
  refine lv_astore (lv' := [(7, .ref (adr (nk x 0))), (0, .ref (adr 0)), (1, .int (nI x)), (2, .int (nI q)), (3, .int (nI so)), (4, .int x3), (5, .int x4), (6, .int x5)]) hx hb dX6_act_5 hl (by decide) rfl (fun ls hl => ?_)
  refine lv_aload hx hb dX6_act_7 (lv_at hl 0 rfl) ?_
  refine lv_ifnonnull (tgt := 15) hx hb dX6_act_9 (by decide) ?_
  refine lv_aload_n hx hb dX6_act_15 rfl (lv_at hl 1 rfl) ?_
  refine lv_aload hx hb dX6_act_16 (lv_at hl 0 rfl) ?_
  refine lv_iload_n hx hb dX6_act_18 rfl (lv_at hl 4 rfl) ?_
  refine lv_iload hx hb dX6_act_19 (lv_at hl 5 rfl) ?_
  refine lv_iload hx hb dX6_act_21 (lv_at hl 6 rfl) ?_
  refine gcV (As := [.ref (adr (nk x 0)), .int (nI so), .int x3, .int x4]) F hK hR hml cv_X6_69 (o := 0) (rfl) rfl rfl (c_X6_namedZ l G A adr n S Y L x z (nI so) x3 x4 hs hxn hzn hZ) ⟨rfl, rfl⟩ ⟨Nat.le_of_ble_eq_true rfl, Nat.le_of_ble_eq_true rfl⟩ rfl rfl hl.1 (Nat.le_of_ble_eq_true rfl) dX6_act_23 ⟨Nat.zero_le _, Nat.zero_le _⟩ (fun H locs hR => ?_)
  refine lv_astore (lv' := [(8, .ref (adr (nk z 0))), (7, .ref (adr (nk x 0))), (0, .ref (adr 0)), (1, .int (nI x)), (2, .int (nI q)), (3, .int (nI so)), (4, .int x3), (5, .int x4), (6, .int x5)]) hx hb dX6_act_26 hl (by decide) rfl (fun ls hl => ?_)
  refine lv_aload hx hb dX6_act_28 (lv_at hl 0 rfl) ?_
  refine lv_ifnonnull (tgt := 36) hx hb dX6_act_30 (by decide) ?_
  refine lv_iload_n hx hb dX6_act_36 rfl (lv_at hl 4 rfl) ?_
  refine gcS (As := [.int (nI q)]) F hml cs_X6_73 (c_X2_isMethod l (nI q)) ⟨rfl, rfl⟩ ⟨Nat.le_of_ble_eq_true rfl, Nat.le_of_ble_eq_true rfl⟩ rfl rfl hl.1 (Nat.le_of_ble_eq_true rfl) dX6_act_37 ⟨Nat.zero_le _, Nat.zero_le _⟩ ?_
  refine lv_if_eq (tgt := 56) hx hb dX6_act_40 (by decide) (fun c_40 => absurd c_40 (by rw [isF_nI hq]; decide)) (fun c_40 => ?_)
  refine lv_iload_n hx hb dX6_act_43 rfl (lv_at hl 5 rfl) ?_
  refine lv_iload hx hb dX6_act_44 (lv_at hl 6 rfl) ?_
  refine lv_iload hx hb dX6_act_46 (lv_at hl 7 rfl) ?_
  refine lv_iload hx hb dX6_act_48 (lv_at hl 8 rfl) ?_
  refine gcS (As := [.int (nI so), .int x3, .int x4, .int x5]) F hml cs_X6_76 (c_X0_numbersFit l so x3 x4 x5 (by omega)) ⟨rfl, rfl⟩ ⟨Nat.le_of_ble_eq_true rfl, Nat.le_of_ble_eq_true rfl⟩ rfl rfl hl.1 (Nat.le_of_ble_eq_true rfl) dX6_act_50 ⟨Nat.zero_le _, Nat.zero_le _⟩ ?_
  refine lv_if_ne (tgt := 59) hx hb dX6_act_53 (by decide) (fun c_53 => absurd c_53 (fun q => q hno)) (fun c_53 => ?_)
  refine lv_bipush (v := (-3)) hx hb dX6_act_56 (by decide) ?_
  exact gr_i F hr hlk hK hR dX6_act_58 (rfl) (rfl)
set_option maxHeartbeats 4000000 in
set_option maxRecDepth 100000 in
/-- act: a FACE is not made -/
theorem c_X6_actF (l : Launch) (G : gw_G) (A : Nat → Prop) (adr : Nat → Nat) (n : Nat) (S Y : Nat → Nat → Int32) (L : Int64) (x z q : Nat) (x3 x4 x5 : Int32) (hs : sI n S) (hxn : x < n) (hzn : z < n) (hZ : nmZ x z (nI 8) x3 x4) (hq : q < 4) (hno : ¬ S 1 z = 0) : gm l yX6_act cX6_act 9 (some .int) (rmL 4) 0 0 A [.ref (adr 0), .int (nI x), .int (nI q), .int (nI 8), .int x3, .int x4, .int x5] (gW G A adr (ccel G adr n S Y L)) (gW G A adr (ccel G adr n S Y L)) (some (.int (-4))) := by
  refine gm_of (own := RX6) (by decide) rfl (Nat.le_of_ble_eq_true rfl) ?_
  intro p e s m below meth c ls F hml hr hlk hnm hK hR hl
  have hx := F.1
  have hb := F.2.1
  replace hl : lv_has ls 9 [(0, .ref (adr 0)), (1, .int (nI x)), (2, .int (nI q)), (3, .int (nI 8)), (4, .int x3), (5, .int x4), (6, .int x5)] := hl
  have hn12 := hs.1
  have hn0 := hs.2.1
  refine lv_aload_n hx hb dX6_act_0 rfl (lv_at hl 0 rfl) ?_
  refine lv_iload_n hx hb dX6_act_1 rfl (lv_at hl 1 rfl) ?_
  refine gcV (As := [.int (nI x)]) F hK hR hml cv_X6_33 (o := 0) (rfl) rfl rfl (c_X6_findY l G A adr n S Y L x hn0 hn12 (by omega)) ⟨rfl, rfl⟩ ⟨Nat.le_of_ble_eq_true rfl, Nat.le_of_ble_eq_true rfl⟩ rfl rfl hl.1 (Nat.le_of_ble_eq_true rfl) dX6_act_2 ⟨Nat.zero_le _, Nat.zero_le _⟩ (fun H locs hR => ?_)
  refine lv_astore (lv' := [(7, .ref (adr (nk x 0))), (0, .ref (adr 0)), (1, .int (nI x)), (2, .int (nI q)), (3, .int (nI 8)), (4, .int x3), (5, .int x4), (6, .int x5)]) hx hb dX6_act_5 hl (by decide) rfl (fun ls hl => ?_)
  refine lv_aload hx hb dX6_act_7 (lv_at hl 0 rfl) ?_
  refine lv_ifnonnull (tgt := 15) hx hb dX6_act_9 (by decide) ?_
  refine lv_aload_n hx hb dX6_act_15 rfl (lv_at hl 1 rfl) ?_
  refine lv_aload hx hb dX6_act_16 (lv_at hl 0 rfl) ?_
  refine lv_iload_n hx hb dX6_act_18 rfl (lv_at hl 4 rfl) ?_
  refine lv_iload hx hb dX6_act_19 (lv_at hl 5 rfl) ?_
  refine lv_iload hx hb dX6_act_21 (lv_at hl 6 rfl) ?_
  refine gcV (As := [.ref (adr (nk x 0)), .int (nI 8), .int x3, .int x4]) F hK hR hml cv_X6_69 (o := 0) (rfl) rfl rfl (c_X6_namedZ l G A adr n S Y L x z (nI 8) x3 x4 hs hxn hzn hZ) ⟨rfl, rfl⟩ ⟨Nat.le_of_ble_eq_true rfl, Nat.le_of_ble_eq_true rfl⟩ rfl rfl hl.1 (Nat.le_of_ble_eq_true rfl) dX6_act_23 ⟨Nat.zero_le _, Nat.zero_le _⟩ (fun H locs hR => ?_)
  refine lv_astore (lv' := [(8, .ref (adr (nk z 0))), (7, .ref (adr (nk x 0))), (0, .ref (adr 0)), (1, .int (nI x)), (2, .int (nI q)), (3, .int (nI 8)), (4, .int x3), (5, .int x4), (6, .int x5)]) hx hb dX6_act_26 hl (by decide) rfl (fun ls hl => ?_)
  refine lv_aload hx hb dX6_act_28 (lv_at hl 0 rfl) ?_
  refine lv_ifnonnull (tgt := 36) hx hb dX6_act_30 (by decide) ?_
  refine lv_iload_n hx hb dX6_act_36 rfl (lv_at hl 4 rfl) ?_
  refine gcS (As := [.int (nI q)]) F hml cs_X6_73 (c_X2_isMethod l (nI q)) ⟨rfl, rfl⟩ ⟨Nat.le_of_ble_eq_true rfl, Nat.le_of_ble_eq_true rfl⟩ rfl rfl hl.1 (Nat.le_of_ble_eq_true rfl) dX6_act_37 ⟨Nat.zero_le _, Nat.zero_le _⟩ ?_
  refine lv_if_eq (tgt := 56) hx hb dX6_act_40 (by decide) (fun c_40 => absurd c_40 (by rw [isF_nI hq]; decide)) (fun c_40 => ?_)
  refine lv_iload_n hx hb dX6_act_43 rfl (lv_at hl 5 rfl) ?_
  refine lv_iload hx hb dX6_act_44 (lv_at hl 6 rfl) ?_
  refine lv_iload hx hb dX6_act_46 (lv_at hl 7 rfl) ?_
  refine lv_iload hx hb dX6_act_48 (lv_at hl 8 rfl) ?_
  refine gcS (As := [.int (nI 8), .int x3, .int x4, .int x5]) F hml cs_X6_76 (c_X0_numbersFit l 8 x3 x4 x5 (by omega)) ⟨rfl, rfl⟩ ⟨Nat.le_of_ble_eq_true rfl, Nat.le_of_ble_eq_true rfl⟩ rfl rfl hl.1 (Nat.le_of_ble_eq_true rfl) dX6_act_50 ⟨Nat.zero_le _, Nat.zero_le _⟩ ?_
  refine lv_if_ne (tgt := 59) hx hb dX6_act_53 (by decide) (fun c_53 => ?_) (fun c_53 => absurd c_53 (by show ¬ nI 1 = 0; decide))
  refine lv_iload_n hx hb dX6_act_59 rfl (lv_at hl 5 rfl) ?_
  refine lv_bipush (v := nI 8) hx hb dX6_act_60 (by decide) ?_
  refine nv_icmp_ne (by omega) (by omega) hx hb dX6_act_62 (tgt := 73) (by decide) (fun c_62 => absurd c_62 (by omega)) (fun c_62 => ?_)
  refine lv_aload hx hb dX6_act_65 (lv_at hl 0 rfl) ?_
  refine kg_1 F hK hR (by omega) fl_X6_37 dX6_act_67 ?_
  refine lv_if_ne (tgt := 81) hx hb dX6_act_70 (by decide) (fun c_70 => ?_) (fun c_70 => absurd c_70 (hno))
  refine lv_bipush (v := (-4)) hx hb dX6_act_81 (by decide) ?_
  exact gr_i F hr hlk hK hR dX6_act_83 (rfl) (rfl)
set_option maxHeartbeats 4000000 in
set_option maxRecDepth 100000 in
/-- act: started -/
theorem c_X6_actT (l : Launch) (G : gw_G) (A : Nat → Prop) (adr : Nat → Nat) (n : Nat) (S Y : Nat → Nat → Int32) (L : Int64) (x z q so : Nat) (x3 x4 x5 : Int32) (hs : sI n S) (hxn : x < n) (hzn : z < n) (hZ : nmZ x z (nI so) x3 x4) (hq : q < 4) (hso : so ≤ 12) (hin : ¬ sp_areIn so x3 x4 x5 = 0) (h8 : so = 8 → S 1 z = 0) (hst : ¬ S 12 x = 0) : gm l yX6_act cX6_act 9 (some .int) (rmL 4) 0 0 A [.ref (adr 0), .int (nI x), .int (nI q), .int (nI so), .int x3, .int x4, .int x5] (gW G A adr (ccel G adr n S Y L)) (gW G A adr (ccel G adr n S Y L)) (some (.int (-4))) := by
  refine gm_of (own := RX6) (by decide) rfl (Nat.le_of_ble_eq_true rfl) ?_
  intro p e s m below meth c ls F hml hr hlk hnm hK hR hl
  have hx := F.1
  have hb := F.2.1
  replace hl : lv_has ls 9 [(0, .ref (adr 0)), (1, .int (nI x)), (2, .int (nI q)), (3, .int (nI so)), (4, .int x3), (5, .int x4), (6, .int x5)] := hl
  have hn12 := hs.1
  have hn0 := hs.2.1
  refine lv_aload_n hx hb dX6_act_0 rfl (lv_at hl 0 rfl) ?_
  refine lv_iload_n hx hb dX6_act_1 rfl (lv_at hl 1 rfl) ?_
  refine gcV (As := [.int (nI x)]) F hK hR hml cv_X6_33 (o := 0) (rfl) rfl rfl (c_X6_findY l G A adr n S Y L x hn0 hn12 (by omega)) ⟨rfl, rfl⟩ ⟨Nat.le_of_ble_eq_true rfl, Nat.le_of_ble_eq_true rfl⟩ rfl rfl hl.1 (Nat.le_of_ble_eq_true rfl) dX6_act_2 ⟨Nat.zero_le _, Nat.zero_le _⟩ (fun H locs hR => ?_)
  refine lv_astore (lv' := [(7, .ref (adr (nk x 0))), (0, .ref (adr 0)), (1, .int (nI x)), (2, .int (nI q)), (3, .int (nI so)), (4, .int x3), (5, .int x4), (6, .int x5)]) hx hb dX6_act_5 hl (by decide) rfl (fun ls hl => ?_)
  refine lv_aload hx hb dX6_act_7 (lv_at hl 0 rfl) ?_
  refine lv_ifnonnull (tgt := 15) hx hb dX6_act_9 (by decide) ?_
  refine lv_aload_n hx hb dX6_act_15 rfl (lv_at hl 1 rfl) ?_
  refine lv_aload hx hb dX6_act_16 (lv_at hl 0 rfl) ?_
  refine lv_iload_n hx hb dX6_act_18 rfl (lv_at hl 4 rfl) ?_
  refine lv_iload hx hb dX6_act_19 (lv_at hl 5 rfl) ?_
  refine lv_iload hx hb dX6_act_21 (lv_at hl 6 rfl) ?_
  refine gcV (As := [.ref (adr (nk x 0)), .int (nI so), .int x3, .int x4]) F hK hR hml cv_X6_69 (o := 0) (rfl) rfl rfl (c_X6_namedZ l G A adr n S Y L x z (nI so) x3 x4 hs hxn hzn hZ) ⟨rfl, rfl⟩ ⟨Nat.le_of_ble_eq_true rfl, Nat.le_of_ble_eq_true rfl⟩ rfl rfl hl.1 (Nat.le_of_ble_eq_true rfl) dX6_act_23 ⟨Nat.zero_le _, Nat.zero_le _⟩ (fun H locs hR => ?_)
  refine lv_astore (lv' := [(8, .ref (adr (nk z 0))), (7, .ref (adr (nk x 0))), (0, .ref (adr 0)), (1, .int (nI x)), (2, .int (nI q)), (3, .int (nI so)), (4, .int x3), (5, .int x4), (6, .int x5)]) hx hb dX6_act_26 hl (by decide) rfl (fun ls hl => ?_)
  refine lv_aload hx hb dX6_act_28 (lv_at hl 0 rfl) ?_
  refine lv_ifnonnull (tgt := 36) hx hb dX6_act_30 (by decide) ?_
  refine lv_iload_n hx hb dX6_act_36 rfl (lv_at hl 4 rfl) ?_
  refine gcS (As := [.int (nI q)]) F hml cs_X6_73 (c_X2_isMethod l (nI q)) ⟨rfl, rfl⟩ ⟨Nat.le_of_ble_eq_true rfl, Nat.le_of_ble_eq_true rfl⟩ rfl rfl hl.1 (Nat.le_of_ble_eq_true rfl) dX6_act_37 ⟨Nat.zero_le _, Nat.zero_le _⟩ ?_
  refine lv_if_eq (tgt := 56) hx hb dX6_act_40 (by decide) (fun c_40 => absurd c_40 (by rw [isF_nI hq]; decide)) (fun c_40 => ?_)
  refine lv_iload_n hx hb dX6_act_43 rfl (lv_at hl 5 rfl) ?_
  refine lv_iload hx hb dX6_act_44 (lv_at hl 6 rfl) ?_
  refine lv_iload hx hb dX6_act_46 (lv_at hl 7 rfl) ?_
  refine lv_iload hx hb dX6_act_48 (lv_at hl 8 rfl) ?_
  refine gcS (As := [.int (nI so), .int x3, .int x4, .int x5]) F hml cs_X6_76 (c_X0_numbersFit l so x3 x4 x5 (by omega)) ⟨rfl, rfl⟩ ⟨Nat.le_of_ble_eq_true rfl, Nat.le_of_ble_eq_true rfl⟩ rfl rfl hl.1 (Nat.le_of_ble_eq_true rfl) dX6_act_50 ⟨Nat.zero_le _, Nat.zero_le _⟩ ?_
  refine lv_if_ne (tgt := 59) hx hb dX6_act_53 (by decide) (fun c_53 => ?_) (fun c_53 => absurd c_53 (hin))
  refine lv_iload_n hx hb dX6_act_59 rfl (lv_at hl 5 rfl) ?_
  refine lv_bipush (v := nI 8) hx hb dX6_act_60 (by decide) ?_
  refine nv_icmp_ne (by omega) (by omega) hx hb dX6_act_62 (tgt := 73) (by decide) (fun c_62 => ?_) (fun c_62 => ?_)
  · refine lv_aload hx hb dX6_act_73 (lv_at hl 1 rfl) ?_
    refine kg_11 F hK hR (by omega) fl_X6_52 dX6_act_75 ?_
    refine lv_if_eq (tgt := 84) hx hb dX6_act_78 (by decide) (fun c_78 => absurd c_78 (hst)) (fun c_78 => ?_)
    refine lv_bipush (v := (-4)) hx hb dX6_act_81 (by decide) ?_
    exact gr_i F hr hlk hK hR dX6_act_83 (rfl) (rfl)
  · refine lv_aload hx hb dX6_act_65 (lv_at hl 0 rfl) ?_
    refine kg_1 F hK hR (by omega) fl_X6_37 dX6_act_67 ?_
    refine lv_if_ne (tgt := 81) hx hb dX6_act_70 (by decide) (fun c_70 => absurd c_70 (fun q => q (h8 (by omega)))) (fun c_70 => ?_)
    refine lv_aload hx hb dX6_act_73 (lv_at hl 1 rfl) ?_
    refine kg_11 F hK hR (by omega) fl_X6_52 dX6_act_75 ?_
    refine lv_if_eq (tgt := 84) hx hb dX6_act_78 (by decide) (fun c_78 => absurd c_78 (hst)) (fun c_78 => ?_)
    refine lv_bipush (v := (-4)) hx hb dX6_act_81 (by decide) ?_
    exact gr_i F hr hlk hK hR dX6_act_83 (rfl) (rfl)
set_option maxHeartbeats 4000000 in
set_option maxRecDepth 100000 in
/-- act: no room -/
theorem c_X6_actR (l : Launch) (G : gw_G) (A : Nat → Prop) (adr : Nat → Nat) (n : Nat) (S Y : Nat → Nat → Int32) (L : Int64) (x z q so : Nat) (x3 x4 x5 : Int32) (hs : sI n S) (hxn : x < n) (hzn : z < n) (hZ : nmZ x z (nI so) x3 x4) (hq : q < 4) (hso : so ≤ 12) (hin : ¬ sp_areIn so x3 x4 x5 = 0) (h8 : so = 8 → S 1 z = 0) (hst : S 12 x = 0) (hac : S 10 (4 * x + q) = nI 10) : gm l yX6_act cX6_act 9 (some .int) (rmL 4) 0 0 A [.ref (adr 0), .int (nI x), .int (nI q), .int (nI so), .int x3, .int x4, .int x5] (gW G A adr (ccel G adr n S Y L)) (gW G A adr (ccel G adr n S Y L)) (some (.int (-5))) := by
  refine gm_of (own := RX6) (by decide) rfl (Nat.le_of_ble_eq_true rfl) ?_
  intro p e s m below meth c ls F hml hr hlk hnm hK hR hl
  have hx := F.1
  have hb := F.2.1
  replace hl : lv_has ls 9 [(0, .ref (adr 0)), (1, .int (nI x)), (2, .int (nI q)), (3, .int (nI so)), (4, .int x3), (5, .int x4), (6, .int x5)] := hl
  have hn12 := hs.1
  have hn0 := hs.2.1
  refine lv_aload_n hx hb dX6_act_0 rfl (lv_at hl 0 rfl) ?_
  refine lv_iload_n hx hb dX6_act_1 rfl (lv_at hl 1 rfl) ?_
  refine gcV (As := [.int (nI x)]) F hK hR hml cv_X6_33 (o := 0) (rfl) rfl rfl (c_X6_findY l G A adr n S Y L x hn0 hn12 (by omega)) ⟨rfl, rfl⟩ ⟨Nat.le_of_ble_eq_true rfl, Nat.le_of_ble_eq_true rfl⟩ rfl rfl hl.1 (Nat.le_of_ble_eq_true rfl) dX6_act_2 ⟨Nat.zero_le _, Nat.zero_le _⟩ (fun H locs hR => ?_)
  refine lv_astore (lv' := [(7, .ref (adr (nk x 0))), (0, .ref (adr 0)), (1, .int (nI x)), (2, .int (nI q)), (3, .int (nI so)), (4, .int x3), (5, .int x4), (6, .int x5)]) hx hb dX6_act_5 hl (by decide) rfl (fun ls hl => ?_)
  refine lv_aload hx hb dX6_act_7 (lv_at hl 0 rfl) ?_
  refine lv_ifnonnull (tgt := 15) hx hb dX6_act_9 (by decide) ?_
  refine lv_aload_n hx hb dX6_act_15 rfl (lv_at hl 1 rfl) ?_
  refine lv_aload hx hb dX6_act_16 (lv_at hl 0 rfl) ?_
  refine lv_iload_n hx hb dX6_act_18 rfl (lv_at hl 4 rfl) ?_
  refine lv_iload hx hb dX6_act_19 (lv_at hl 5 rfl) ?_
  refine lv_iload hx hb dX6_act_21 (lv_at hl 6 rfl) ?_
  refine gcV (As := [.ref (adr (nk x 0)), .int (nI so), .int x3, .int x4]) F hK hR hml cv_X6_69 (o := 0) (rfl) rfl rfl (c_X6_namedZ l G A adr n S Y L x z (nI so) x3 x4 hs hxn hzn hZ) ⟨rfl, rfl⟩ ⟨Nat.le_of_ble_eq_true rfl, Nat.le_of_ble_eq_true rfl⟩ rfl rfl hl.1 (Nat.le_of_ble_eq_true rfl) dX6_act_23 ⟨Nat.zero_le _, Nat.zero_le _⟩ (fun H locs hR => ?_)
  refine lv_astore (lv' := [(8, .ref (adr (nk z 0))), (7, .ref (adr (nk x 0))), (0, .ref (adr 0)), (1, .int (nI x)), (2, .int (nI q)), (3, .int (nI so)), (4, .int x3), (5, .int x4), (6, .int x5)]) hx hb dX6_act_26 hl (by decide) rfl (fun ls hl => ?_)
  refine lv_aload hx hb dX6_act_28 (lv_at hl 0 rfl) ?_
  refine lv_ifnonnull (tgt := 36) hx hb dX6_act_30 (by decide) ?_
  refine lv_iload_n hx hb dX6_act_36 rfl (lv_at hl 4 rfl) ?_
  refine gcS (As := [.int (nI q)]) F hml cs_X6_73 (c_X2_isMethod l (nI q)) ⟨rfl, rfl⟩ ⟨Nat.le_of_ble_eq_true rfl, Nat.le_of_ble_eq_true rfl⟩ rfl rfl hl.1 (Nat.le_of_ble_eq_true rfl) dX6_act_37 ⟨Nat.zero_le _, Nat.zero_le _⟩ ?_
  refine lv_if_eq (tgt := 56) hx hb dX6_act_40 (by decide) (fun c_40 => absurd c_40 (by rw [isF_nI hq]; decide)) (fun c_40 => ?_)
  refine lv_iload_n hx hb dX6_act_43 rfl (lv_at hl 5 rfl) ?_
  refine lv_iload hx hb dX6_act_44 (lv_at hl 6 rfl) ?_
  refine lv_iload hx hb dX6_act_46 (lv_at hl 7 rfl) ?_
  refine lv_iload hx hb dX6_act_48 (lv_at hl 8 rfl) ?_
  refine gcS (As := [.int (nI so), .int x3, .int x4, .int x5]) F hml cs_X6_76 (c_X0_numbersFit l so x3 x4 x5 (by omega)) ⟨rfl, rfl⟩ ⟨Nat.le_of_ble_eq_true rfl, Nat.le_of_ble_eq_true rfl⟩ rfl rfl hl.1 (Nat.le_of_ble_eq_true rfl) dX6_act_50 ⟨Nat.zero_le _, Nat.zero_le _⟩ ?_
  refine lv_if_ne (tgt := 59) hx hb dX6_act_53 (by decide) (fun c_53 => ?_) (fun c_53 => absurd c_53 (hin))
  refine lv_iload_n hx hb dX6_act_59 rfl (lv_at hl 5 rfl) ?_
  refine lv_bipush (v := nI 8) hx hb dX6_act_60 (by decide) ?_
  refine nv_icmp_ne (by omega) (by omega) hx hb dX6_act_62 (tgt := 73) (by decide) (fun c_62 => ?_) (fun c_62 => ?_)
  · refine lv_aload hx hb dX6_act_73 (lv_at hl 1 rfl) ?_
    refine kg_11 F hK hR (by omega) fl_X6_52 dX6_act_75 ?_
    refine lv_if_eq (tgt := 84) hx hb dX6_act_78 (by decide) (fun c_78 => ?_) (fun c_78 => absurd hst c_78)
    refine lv_aload hx hb dX6_act_84 (lv_at hl 1 rfl) ?_
    refine kg_10 F hK hR (by omega) fl_X6_82 dX6_act_86 ?_
    refine lv_iload_n hx hb dX6_act_89 rfl (lv_at hl 4 rfl) ?_
    refine mt_ld F hK hR (by omega) (by omega) dX6_act_90 ?_
    refine lv_iload_n hx hb dX6_act_91 rfl (lv_at hl 5 rfl) ?_
    refine lv_aload hx hb dX6_act_92 (lv_at hl 0 rfl) ?_
    refine lv_iload hx hb dX6_act_94 (lv_at hl 6 rfl) ?_
    refine lv_iload hx hb dX6_act_96 (lv_at hl 7 rfl) ?_
    refine lv_iload hx hb dX6_act_98 (lv_at hl 8 rfl) ?_
    refine gcVi (As := [.int (nI so), .ref (adr (nk z 0)), .int x3, .int x4, .int x5]) F hK hR hml cv_X6_86 (o := nk x (6 + q)) ((ccel_k (by omega) (by omega)).trans (kc_m (by omega))) rfl rfl (c_X4_appendF l G A adr n S Y L x q z (nI so) x3 x4 x5 hxn hq hac) ⟨rfl, rfl⟩ ⟨Nat.le_of_ble_eq_true rfl, Nat.le_of_ble_eq_true rfl⟩ rfl rfl hl.1 (Nat.le_of_ble_eq_true rfl) dX6_act_100 ⟨Nat.zero_le _, Nat.zero_le _⟩ (fun H locs hR => ?_)
    exact gr_i F hr hlk hK hR dX6_act_103 (rfl) (rfl)
  · refine lv_aload hx hb dX6_act_65 (lv_at hl 0 rfl) ?_
    refine kg_1 F hK hR (by omega) fl_X6_37 dX6_act_67 ?_
    refine lv_if_ne (tgt := 81) hx hb dX6_act_70 (by decide) (fun c_70 => absurd c_70 (fun q => q (h8 (by omega)))) (fun c_70 => ?_)
    refine lv_aload hx hb dX6_act_73 (lv_at hl 1 rfl) ?_
    refine kg_11 F hK hR (by omega) fl_X6_52 dX6_act_75 ?_
    refine lv_if_eq (tgt := 84) hx hb dX6_act_78 (by decide) (fun c_78 => ?_) (fun c_78 => absurd hst c_78)
    refine lv_aload hx hb dX6_act_84 (lv_at hl 1 rfl) ?_
    refine kg_10 F hK hR (by omega) fl_X6_82 dX6_act_86 ?_
    refine lv_iload_n hx hb dX6_act_89 rfl (lv_at hl 4 rfl) ?_
    refine mt_ld F hK hR (by omega) (by omega) dX6_act_90 ?_
    refine lv_iload_n hx hb dX6_act_91 rfl (lv_at hl 5 rfl) ?_
    refine lv_aload hx hb dX6_act_92 (lv_at hl 0 rfl) ?_
    refine lv_iload hx hb dX6_act_94 (lv_at hl 6 rfl) ?_
    refine lv_iload hx hb dX6_act_96 (lv_at hl 7 rfl) ?_
    refine lv_iload hx hb dX6_act_98 (lv_at hl 8 rfl) ?_
    refine gcVi (As := [.int (nI so), .ref (adr (nk z 0)), .int x3, .int x4, .int x5]) F hK hR hml cv_X6_86 (o := nk x (6 + q)) ((ccel_k (by omega) (by omega)).trans (kc_m (by omega))) rfl rfl (c_X4_appendF l G A adr n S Y L x q z (nI so) x3 x4 x5 hxn hq hac) ⟨rfl, rfl⟩ ⟨Nat.le_of_ble_eq_true rfl, Nat.le_of_ble_eq_true rfl⟩ rfl rfl hl.1 (Nat.le_of_ble_eq_true rfl) dX6_act_100 ⟨Nat.zero_le _, Nat.zero_le _⟩ (fun H locs hR => ?_)
    exact gr_i F hr hlk hK hR dX6_act_103 (rfl) (rfl)
set_option maxHeartbeats 4000000 in
set_option maxRecDepth 100000 in
/-- act(..): put behind -/
theorem c_X6_actK (l : Launch) (G : gw_G) (A : Nat → Prop) (adr : Nat → Nat) (n : Nat) (S Y : Nat → Nat → Int32) (L : Int64) (x z q so ac : Nat) (x3 x4 x5 : Int32) (hs : sI n S) (hxn : x < n) (hzn : z < n) (hZ : nmZ x z (nI so) x3 x4) (hq : q < 4) (hso : so ≤ 12) (hin : ¬ sp_areIn so x3 x4 x5 = 0) (h8 : so = 8 → S 1 z = 0) (hst : S 12 x = 0) (hac : S 10 (4 * x + q) = nI ac) (h10 : ac < 10) (hoz : oth ((sp_act2 S (4 * x + q) ac (nI so) x3 x4 x5) 11) x (40 * (4 * x + q) + 4 * ac) = z) (h11 : so = 11 → ∃ t, t ≤ 9 ∧ x3 = nI t) : gm l yX6_act cX6_act 9 (some .int) (rmA 4 1 6) 1 6 A [.ref (adr 0), .int (nI x), .int (nI q), .int (nI so), .int x3, .int x4, .int x5] (gWa G A adr (ccel G adr n S Y L)) (fun U => ∃ adr2 : Nat → Nat, (∀ k, k ≠ (nk x (14 + 10 * q + ac)) → adr2 k = adr k) ∧ gW G A adr2 (ccel G adr2 n (sp_act2 S (4 * x + q) ac (nI so) x3 x4 x5) Y L) U) (some (.int (nI (ac + 1)))) := by
  refine gm_ofA (own := RX6) (by decide) rfl (Nat.le_of_ble_eq_true rfl) ?_
  intro p e s m below meth c ls F hml hr hlk hnm hK hA hR hl
  have hx := F.1
  have hb := F.2.1
  have hn12 := hs.1
  have hn0 := hs.2.1
  replace hl : lv_has ls 9 [(0, .ref (adr 0)), (1, .int (nI x)), (2, .int (nI q)), (3, .int (nI so)), (4, .int x3), (5, .int x4), (6, .int x5)] := hl
  refine lv_aload_n hx hb dX6_act_0 rfl (lv_at hl 0 rfl) ?_
  refine lv_iload_n hx hb dX6_act_1 rfl (lv_at hl 1 rfl) ?_
  refine gcV (As := [.int (nI x)]) F hK hR hml cv_X6_33 (o := 0) (rfl) rfl rfl (c_X6_findY l G A adr n S Y L x hn0 hn12 (by omega)) ⟨rfl, rfl⟩ ⟨Nat.le_of_ble_eq_true rfl, Nat.le_of_ble_eq_true rfl⟩ rfl rfl hl.1 (Nat.le_of_ble_eq_true rfl) dX6_act_2 ⟨Nat.zero_le _, Nat.zero_le _⟩ (fun H locs hR => ?_)
  refine lv_astore (lv' := [(7, .ref (adr (nk x 0))), (0, .ref (adr 0)), (1, .int (nI x)), (2, .int (nI q)), (3, .int (nI so)), (4, .int x3), (5, .int x4), (6, .int x5)]) hx hb dX6_act_5 hl (by decide) rfl (fun ls hl => ?_)
  refine lv_aload hx hb dX6_act_7 (lv_at hl 0 rfl) ?_
  refine lv_ifnonnull (tgt := 15) hx hb dX6_act_9 (by decide) ?_
  refine lv_aload_n hx hb dX6_act_15 rfl (lv_at hl 1 rfl) ?_
  refine lv_aload hx hb dX6_act_16 (lv_at hl 0 rfl) ?_
  refine lv_iload_n hx hb dX6_act_18 rfl (lv_at hl 4 rfl) ?_
  refine lv_iload hx hb dX6_act_19 (lv_at hl 5 rfl) ?_
  refine lv_iload hx hb dX6_act_21 (lv_at hl 6 rfl) ?_
  refine gcV (As := [.ref (adr (nk x 0)), .int (nI so), .int x3, .int x4]) F hK hR hml cv_X6_69 (o := 0) (rfl) rfl rfl (c_X6_namedZ l G A adr n S Y L x z (nI so) x3 x4 hs hxn hzn hZ) ⟨rfl, rfl⟩ ⟨Nat.le_of_ble_eq_true rfl, Nat.le_of_ble_eq_true rfl⟩ rfl rfl hl.1 (Nat.le_of_ble_eq_true rfl) dX6_act_23 ⟨Nat.zero_le _, Nat.zero_le _⟩ (fun H locs hR => ?_)
  refine lv_astore (lv' := [(8, .ref (adr (nk z 0))), (7, .ref (adr (nk x 0))), (0, .ref (adr 0)), (1, .int (nI x)), (2, .int (nI q)), (3, .int (nI so)), (4, .int x3), (5, .int x4), (6, .int x5)]) hx hb dX6_act_26 hl (by decide) rfl (fun ls hl => ?_)
  refine lv_aload hx hb dX6_act_28 (lv_at hl 0 rfl) ?_
  refine lv_ifnonnull (tgt := 36) hx hb dX6_act_30 (by decide) ?_
  refine lv_iload_n hx hb dX6_act_36 rfl (lv_at hl 4 rfl) ?_
  refine gcS (As := [.int (nI q)]) F hml cs_X6_73 (c_X2_isMethod l (nI q)) ⟨rfl, rfl⟩ ⟨Nat.le_of_ble_eq_true rfl, Nat.le_of_ble_eq_true rfl⟩ rfl rfl hl.1 (Nat.le_of_ble_eq_true rfl) dX6_act_37 ⟨Nat.zero_le _, Nat.zero_le _⟩ ?_
  refine lv_if_eq (tgt := 56) hx hb dX6_act_40 (by decide) (fun c_40 => absurd c_40 (by rw [isF_nI hq]; decide)) (fun c_40 => ?_)
  refine lv_iload_n hx hb dX6_act_43 rfl (lv_at hl 5 rfl) ?_
  refine lv_iload hx hb dX6_act_44 (lv_at hl 6 rfl) ?_
  refine lv_iload hx hb dX6_act_46 (lv_at hl 7 rfl) ?_
  refine lv_iload hx hb dX6_act_48 (lv_at hl 8 rfl) ?_
  refine gcS (As := [.int (nI so), .int x3, .int x4, .int x5]) F hml cs_X6_76 (c_X0_numbersFit l so x3 x4 x5 (by omega)) ⟨rfl, rfl⟩ ⟨Nat.le_of_ble_eq_true rfl, Nat.le_of_ble_eq_true rfl⟩ rfl rfl hl.1 (Nat.le_of_ble_eq_true rfl) dX6_act_50 ⟨Nat.zero_le _, Nat.zero_le _⟩ ?_
  refine lv_if_ne (tgt := 59) hx hb dX6_act_53 (by decide) (fun c_53 => ?_) (fun c_53 => absurd c_53 (hin))
  refine lv_iload_n hx hb dX6_act_59 rfl (lv_at hl 5 rfl) ?_
  refine lv_bipush (v := nI 8) hx hb dX6_act_60 (by decide) ?_
  refine nv_icmp_ne (by omega) (by omega) hx hb dX6_act_62 (tgt := 73) (by decide) (fun c_62 => ?_) (fun c_62 => ?_)
  · refine lv_aload hx hb dX6_act_73 (lv_at hl 1 rfl) ?_
    refine kg_11 F hK hR (by omega) fl_X6_52 dX6_act_75 ?_
    refine lv_if_eq (tgt := 84) hx hb dX6_act_78 (by decide) (fun c_78 => ?_) (fun c_78 => absurd hst c_78)
    refine lv_aload hx hb dX6_act_84 (lv_at hl 1 rfl) ?_
    refine kg_10 F hK hR (by omega) fl_X6_82 dX6_act_86 ?_
    refine lv_iload_n hx hb dX6_act_89 rfl (lv_at hl 4 rfl) ?_
    refine mt_ld F hK hR (by omega) (by omega) dX6_act_90 ?_
    refine lv_iload_n hx hb dX6_act_91 rfl (lv_at hl 5 rfl) ?_
    refine lv_aload hx hb dX6_act_92 (lv_at hl 0 rfl) ?_
    refine lv_iload hx hb dX6_act_94 (lv_at hl 6 rfl) ?_
    refine lv_iload hx hb dX6_act_96 (lv_at hl 7 rfl) ?_
    refine lv_iload hx hb dX6_act_98 (lv_at hl 8 rfl) ?_
    refine gcVa (As := [.int (nI so), .ref (adr (nk z 0)), .int x3, .int x4, .int x5]) F hK hA hR hml cv_X6_86 (o := nk x (6 + q)) ((ccel_k (by omega) (by omega)).trans (kc_m (by omega))) rfl rfl (c_X4_append l G A adr n S Y L x q ac z so x3 x4 x5 hs hxn hq hac h10 hso hzn hoz h11) ⟨rfl, rfl⟩ ⟨Nat.le_of_ble_eq_true rfl, Nat.le_of_ble_eq_true rfl⟩ rfl rfl hl.1 (Nat.le_of_ble_eq_true rfl) dX6_act_100 ⟨Nat.le_of_ble_eq_true rfl, Nat.le_of_ble_eq_true rfl⟩ (fun U H locs hU hP hS => ?_)
    obtain ⟨adr2, hadr, hP⟩ := hP
    exact gr_iP F hr hlk hK (gW_back hP hU hS) dX6_act_103 rfl (fun t ht => ⟨adr2, hadr, ht⟩)
  · refine lv_aload hx hb dX6_act_65 (lv_at hl 0 rfl) ?_
    refine kg_1 F hK hR (by omega) fl_X6_37 dX6_act_67 ?_
    refine lv_if_ne (tgt := 81) hx hb dX6_act_70 (by decide) (fun c_70 => absurd c_70 (fun q => q (h8 (by omega)))) (fun c_70 => ?_)
    refine lv_aload hx hb dX6_act_73 (lv_at hl 1 rfl) ?_
    refine kg_11 F hK hR (by omega) fl_X6_52 dX6_act_75 ?_
    refine lv_if_eq (tgt := 84) hx hb dX6_act_78 (by decide) (fun c_78 => ?_) (fun c_78 => absurd hst c_78)
    refine lv_aload hx hb dX6_act_84 (lv_at hl 1 rfl) ?_
    refine kg_10 F hK hR (by omega) fl_X6_82 dX6_act_86 ?_
    refine lv_iload_n hx hb dX6_act_89 rfl (lv_at hl 4 rfl) ?_
    refine mt_ld F hK hR (by omega) (by omega) dX6_act_90 ?_
    refine lv_iload_n hx hb dX6_act_91 rfl (lv_at hl 5 rfl) ?_
    refine lv_aload hx hb dX6_act_92 (lv_at hl 0 rfl) ?_
    refine lv_iload hx hb dX6_act_94 (lv_at hl 6 rfl) ?_
    refine lv_iload hx hb dX6_act_96 (lv_at hl 7 rfl) ?_
    refine lv_iload hx hb dX6_act_98 (lv_at hl 8 rfl) ?_
    refine gcVa (As := [.int (nI so), .ref (adr (nk z 0)), .int x3, .int x4, .int x5]) F hK hA hR hml cv_X6_86 (o := nk x (6 + q)) ((ccel_k (by omega) (by omega)).trans (kc_m (by omega))) rfl rfl (c_X4_append l G A adr n S Y L x q ac z so x3 x4 x5 hs hxn hq hac h10 hso hzn hoz h11) ⟨rfl, rfl⟩ ⟨Nat.le_of_ble_eq_true rfl, Nat.le_of_ble_eq_true rfl⟩ rfl rfl hl.1 (Nat.le_of_ble_eq_true rfl) dX6_act_100 ⟨Nat.le_of_ble_eq_true rfl, Nat.le_of_ble_eq_true rfl⟩ (fun U H locs hU hP hS => ?_)
    obtain ⟨adr2, hadr, hP⟩ := hP
    exact gr_iP F hr hlk hK (gW_back hP hU hS) dX6_act_103 rfl (fun t ht => ⟨adr2, hadr, ht⟩)
