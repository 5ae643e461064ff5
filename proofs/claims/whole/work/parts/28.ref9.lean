/-! THE REFERENCE, 9: may, ahead -/
def mz (X : Nat → Nat → Int32) : Nat → Nat → Nat → Int32
  | 0 => X
  | k + 1 => m2 (mz X k) 33 k (nI 0)
def my0 (X : Nat → Nat → Int32) (x mm : Nat) : Nat → Nat → Int32 := m2 (m2 (mz X 48) 32 0 (b1 x)) 33 (4 * x + mm) (nI 1)
noncomputable def mt_z (S X : Nat → Nat → Int32) : Nat → Nat → Nat → Int32
  | 0 => X
  | z + 1 => if (mt_z S X z 32 0 >>> (nI z &&& 31)) &&& nI 1 = nI 1 then mw_X S (mt_z S X z) z else mt_z S X z
def mt_m (S X : Nat → Nat → Int32) : Nat → Nat → Nat → Int32
  | 0 => X
  | k + 1 => if mt_m S X k 33 k = 0 then mt_m S X k else ma_X S (mt_m S X k) k (S 10 k).toNatClampNeg
noncomputable def my_1 (S : Nat → Nat → Int32) (n : Nat) (X : Nat → Nat → Int32) : Nat → Nat → Int32 := mt_m S (mt_z S X n) 48
noncomputable def mt_t (S : Nat → Nat → Int32) (n : Nat) (X : Nat → Nat → Int32) : Nat → Nat → Nat → Int32
  | 0 => X
  | t + 1 => my_1 S n (mt_t S n X t)
set_option maxHeartbeats 4000000 in
set_option maxRecDepth 100000 in
/-- may: no such x -/
theorem c_X7_mayU (l : Launch) (G : gw_G) (A : Nat → Prop) (adr : Nat → Nat) (S X : Nat → Nat → Int32) (n : Nat) (x0 x1 : Int32) (hn0 : S 0 0 = nI n) (hn : n ≤ 12) (hno : sp_has (S 0 0) x0 = 0) : gm l yX7_may cX7_may 5 (some .int) (rmL 2) 0 0 A [.ref (adr 0), .int x0, .int x1] (gW G A adr (rcel G adr S X)) (gW G A adr (rcel G adr S X)) (some (.int (-2))) := by
  refine gm_of (own := RX7) (by decide) rfl (Nat.le_of_ble_eq_true rfl) ?_
  intro p e s m below meth c ls F hml hr hlk hnm hK hR hl
  have hx := F.1
  have hb := F.2.1
  replace hl : lv_has ls 5 [(0, .ref (adr 0)), (1, .int x0), (2, .int x1)] := hl
  refine lv_aload_n hx hb dX7_may_0 rfl (lv_at hl 0 rfl) ?_
  refine lv_iload_n hx hb dX7_may_1 rfl (lv_at hl 1 rfl) ?_
  refine gcVi (As := [.int x0]) F hK hR hml cv_X7_87 (o := 0) rfl rfl rfl (c_X7_has l G A adr S X x0) ⟨rfl, rfl⟩ ⟨Nat.le_of_ble_eq_true rfl, Nat.le_of_ble_eq_true rfl⟩ rfl rfl hl.1 (Nat.le_of_ble_eq_true rfl) dX7_may_2 ⟨Nat.zero_le _, Nat.zero_le _⟩ (fun H locs hR => ?_)
  refine lv_if_ne (tgt := 11) hx hb dX7_may_5 (by decide) (fun c_5 => absurd c_5 (fun q => q hno)) (fun c_5 => ?_)
  refine lv_bipush (v := (-2)) hx hb dX7_may_8 (by decide) ?_
  exact gr_i F hr hlk hK hR dX7_may_10 (rfl) (rfl)
set_option maxHeartbeats 4000000 in
set_option maxRecDepth 100000 in
/-- may: no such method -/
theorem c_X7_mayO (l : Launch) (G : gw_G) (A : Nat → Prop) (adr : Nat → Nat) (S X : Nat → Nat → Int32) (n : Nat) (x0 x1 : Int32) (hn0 : S 0 0 = nI n) (hn : n ≤ 12) (hyes : ¬ sp_has (S 0 0) x0 = 0) (hm : x1 < 0 ∨ nI 3 < x1) : gm l yX7_may cX7_may 5 (some .int) (rmL 2) 0 0 A [.ref (adr 0), .int x0, .int x1] (gW G A adr (rcel G adr S X)) (gW G A adr (rcel G adr S X)) (some (.int (-3))) := by
  refine gm_of (own := RX7) (by decide) rfl (Nat.le_of_ble_eq_true rfl) ?_
  intro p e s m below meth c ls F hml hr hlk hnm hK hR hl
  have hx := F.1
  have hb := F.2.1
  replace hl : lv_has ls 5 [(0, .ref (adr 0)), (1, .int x0), (2, .int x1)] := hl
  refine lv_aload_n hx hb dX7_may_0 rfl (lv_at hl 0 rfl) ?_
  refine lv_iload_n hx hb dX7_may_1 rfl (lv_at hl 1 rfl) ?_
  refine gcVi (As := [.int x0]) F hK hR hml cv_X7_87 (o := 0) rfl rfl rfl (c_X7_has l G A adr S X x0) ⟨rfl, rfl⟩ ⟨Nat.le_of_ble_eq_true rfl, Nat.le_of_ble_eq_true rfl⟩ rfl rfl hl.1 (Nat.le_of_ble_eq_true rfl) dX7_may_2 ⟨Nat.zero_le _, Nat.zero_le _⟩ (fun H locs hR => ?_)
  refine lv_if_ne (tgt := 11) hx hb dX7_may_5 (by decide) (fun c_5 => ?_) (fun c_5 => absurd c_5 (hyes))
  refine lv_iload_n hx hb dX7_may_11 rfl (lv_at hl 2 rfl) ?_
  refine lv_if_lt (tgt := 20) hx hb dX7_may_12 (by decide) (fun c_12 => ?_) (fun c_12 => ?_)
  · have n_12 := Int32.not_le.mpr c_12
    refine lv_bipush (v := (-3)) hx hb dX7_may_20 (by decide) ?_
    exact gr_i F hr hlk hK hR dX7_may_22 (rfl) (rfl)
  · have n_12 := Int32.not_lt.mp c_12
    refine lv_iload_n hx hb dX7_may_15 rfl (lv_at hl 2 rfl) ?_
    refine lv_iconst (v := nI 3) hx hb dX7_may_16 (by decide) ?_
    refine lv_icmp_le (tgt := 23) hx hb dX7_may_17 (by decide) (fun c_17 => absurd c_17 (fun q => hm.elim c_12 (Int32.not_lt.mpr q))) (fun c_17 => ?_)
    refine lv_bipush (v := (-3)) hx hb dX7_may_20 (by decide) ?_
    exact gr_i F hr hlk hK hR dX7_may_22 (rfl) (rfl)
set_option maxHeartbeats 4000000 in
set_option maxRecDepth 100000 in
/-- may -/
theorem c_X7_mayK (l : Launch) (G : gw_G) (A : Nat → Prop) (adr : Nat → Nat) (S X : Nat → Nat → Int32) (n x mm : Nat) (hn0 : S 0 0 = nI n) (hn : n ≤ 12) (hxn : x < n) (hm3 : mm ≤ 3) (hfa : ∀ x, x < 12 → ∃ fc, fc ≤ 3 ∧ S 4 x = nI fc) (hok : okA S) : gm l yX7_may cX7_may 5 (some .int) (rmL 2) 0 0 A [.ref (adr 0), .int (nI x), .int (nI mm)] (gW G A adr (rcel G adr S X)) (gW G A adr (rcel G adr S (mt_t S n (my0 X x mm) 60))) (some (.int (mt_t S n (my0 X x mm) 60 32 0))) := by
  refine gm_of (own := RX7) (by decide) rfl (Nat.le_of_ble_eq_true rfl) ?_
  intro p e s m below meth c ls F hml hr hlk hnm hK hR hl
  have hx := F.1
  have hb := F.2.1
  replace hl : lv_has ls 5 [(0, .ref (adr 0)), (1, .int (nI x)), (2, .int (nI mm))] := hl
  refine lv_aload_n hx hb dX7_may_0 rfl (lv_at hl 0 rfl) ?_
  refine lv_iload_n hx hb dX7_may_1 rfl (lv_at hl 1 rfl) ?_
  refine gcVi (As := [.int (nI x)]) F hK hR hml cv_X7_87 (o := 0) rfl rfl rfl (c_X7_has l G A adr S X (nI x)) ⟨rfl, rfl⟩ ⟨Nat.le_of_ble_eq_true rfl, Nat.le_of_ble_eq_true rfl⟩ rfl rfl hl.1 (Nat.le_of_ble_eq_true rfl) dX7_may_2 ⟨Nat.zero_le _, Nat.zero_le _⟩ (fun H locs hR => ?_)
  refine lv_if_ne (tgt := 11) hx hb dX7_may_5 (by decide) (fun c_5 => ?_) (fun c_5 => absurd c_5 ((by rw [hn0]; unfold sp_has; rw [if_neg (nI_pos (by omega)), if_neg (nI_ge hxn (by omega))]; decide)))
  refine lv_iload_n hx hb dX7_may_11 rfl (lv_at hl 2 rfl) ?_
  refine nv_if_lt (by omega) hx hb dX7_may_12 (tgt := 20) (by decide) ?_
  refine lv_iload_n hx hb dX7_may_15 rfl (lv_at hl 2 rfl) ?_
  refine lv_iconst (v := nI 3) hx hb dX7_may_16 (by decide) ?_
  refine nv_icmp_le (by omega) (by omega) hx hb dX7_may_17 (tgt := 23) (by decide) (fun c_17 => ?_) (fun c_17 => absurd c_17 (by omega))
  refine lv_iconst (v := nI 0) hx hb dX7_may_23 (by decide) ?_
  refine lv_istore_n (lv' := [(3, .int (nI 0)), (0, .ref (adr 0)), (1, .int (nI x)), (2, .int (nI mm))]) hx hb dX7_may_24 rfl hl (by decide) rfl (fun ls hl => ?_)
  refine lp_gen hR (fun H locs hR => ?_)
  obtain ⟨k, hka⟩ : ∃ k : Nat, k = 0 := ⟨_, rfl⟩
  replace hl : lv_has ls 5 [(3, .int (nI k)), (0, .ref (adr 0)), (1, .int (nI x)), (2, .int (nI mm))] := by rw [hka]; exact lv_sub hl [0, 1, 2, 3] rfl
  have hlea : k ≤ 48 := by omega
  replace hR : rB G A adr S (mz X k) s.heap H locs := by rw [hka]; exact hR
  clear hka
  generalize hda : 48 - k = da
  induction da generalizing k ls H locs with
  | zero =>
    have ek := sub0 hda hlea
    refine lv_iload_n hx hb dX7_may_25 rfl (lv_at hl 0 rfl) ?_
    refine lv_bipush (v := nI 48) hx hb dX7_may_26 (by decide) ?_
    refine nv_icmp_ge (by omega) (by omega) hx hb dX7_may_28 (tgt := 44) (by decide) (fun c_28 => ?_) (fun c_28 => absurd c_28 (by omega))
    refine lv_aload_n hx hb dX7_may_44 rfl (lv_at hl 1 rfl) ?_
    refine lv_iconst (v := nI 1) hx hb dX7_may_45 (by decide) ?_
    refine lv_iload_n hx hb dX7_may_46 rfl (lv_at hl 2 rfl) ?_
    refine lv_ishl hx hb dX7_may_47 ?_
    refine rp_32 F hK hR dX7_may_48 (fun H locs hR => ?_)
    refine lv_aload_n hx hb dX7_may_51 rfl (lv_at hl 1 rfl) ?_
    refine rg_33 F hK hR dX7_may_52 ?_
    refine lv_iconst (v := nI 4) hx hb dX7_may_55 (by decide) ?_
    refine lv_iload_n hx hb dX7_may_56 rfl (lv_at hl 2 rfl) ?_
    refine nv_imul hx hb dX7_may_57 ?_
    refine lv_iload_n hx hb dX7_may_58 rfl (lv_at hl 3 rfl) ?_
    refine nv_iadd hx hb dX7_may_59 ?_
    refine lv_iconst (v := nI 1) hx hb dX7_may_60 (by decide) ?_
    refine rs_33 F hK hR (by omega) (by decide) dX7_may_61 (fun H locs hR => ?_)
    refine lv_iconst (v := nI 0) hx hb dX7_may_62 (by decide) ?_
    refine lv_istore_n (lv' := [(3, .int (nI 0)), (0, .ref (adr 0)), (1, .int (nI x)), (2, .int (nI mm))]) hx hb dX7_may_63 rfl hl (by decide) rfl (fun ls hl => ?_)
    refine lp_gen hR (fun H locs hR => ?_)
    obtain ⟨t, hkb⟩ : ∃ k : Nat, k = 0 := ⟨_, rfl⟩
    replace hl : lv_has ls 5 [(3, .int (nI t)), (0, .ref (adr 0)), (1, .int (nI x)), (2, .int (nI mm))] := by rw [hkb]; exact lv_sub hl [0, 1, 2, 3] rfl
    have hleb : t ≤ 60 := by omega
    replace hR : rB G A adr S (mt_t S n (my0 X x mm) t) s.heap H locs := by rw [hkb]; exact gw_B.to hR (by rw [ek, mt_t, my0, b1])
    clear hkb
    generalize hdb : 60 - t = db
    induction db generalizing t ls H locs with
    | zero =>
      have et := sub0 hdb hleb
      refine lv_iload_n hx hb dX7_may_64 rfl (lv_at hl 0 rfl) ?_
      refine lv_bipush (v := nI 60) hx hb dX7_may_65 (by decide) ?_
      refine nv_icmp_ge (by omega) (by omega) hx hb dX7_may_67 (tgt := 145) (by decide) (fun c_67 => ?_) (fun c_67 => absurd c_67 (by omega))
      refine lv_aload_n hx hb dX7_may_145 rfl (lv_at hl 1 rfl) ?_
      refine rg_32 F hK hR dX7_may_146 ?_
      exact gr_i F hr hlk hK hR dX7_may_149 (by rw [et]) (by rw [et])
    | succ db ihb =>
      refine lv_iload_n hx hb dX7_may_64 rfl (lv_at hl 0 rfl) ?_
      refine lv_bipush (v := nI 60) hx hb dX7_may_65 (by decide) ?_
      refine nv_icmp_ge (by omega) (by omega) hx hb dX7_may_67 (tgt := 145) (by decide) (fun c_67 => absurd c_67 (by omega)) (fun c_67 => ?_)
      refine lv_iconst (v := nI 0) hx hb dX7_may_70 (by decide) ?_
      refine lv_istore (lv' := [(4, .int (nI 0)), (3, .int (nI t)), (0, .ref (adr 0)), (1, .int (nI x)), (2, .int (nI mm))]) hx hb dX7_may_71 hl (by decide) rfl (fun ls hl => ?_)
      refine lp_gen hR (fun H locs hR => ?_)
      obtain ⟨z, hkc⟩ : ∃ k : Nat, k = 0 := ⟨_, rfl⟩
      replace hl : lv_has ls 5 [(4, .int (nI z)), (3, .int (nI t)), (0, .ref (adr 0)), (1, .int (nI x)), (2, .int (nI mm))] := by rw [hkc]; exact lv_sub hl [0, 1, 2, 3, 4] rfl
      have hlec : z ≤ n := by omega
      replace hR : rB G A adr S (mt_z S (mt_t S n (my0 X x mm) t) z) s.heap H locs := by rw [hkc]; exact hR
      clear hkc
      generalize hdc : n - z = dc
      induction dc generalizing z ls H locs with
      | zero =>
        have ez := sub0 hdc hlec
        refine lv_iload hx hb dX7_may_73 (lv_at hl 0 rfl) ?_
        refine lv_aload_n hx hb dX7_may_75 rfl (lv_at hl 2 rfl) ?_
        refine rg_0 F hK hR dX7_may_76 ?_
        refine lv_eq (hn0) ?_
        refine nv_icmp_ge (by omega) (by omega) hx hb dX7_may_79 (tgt := 107) (by decide) (fun c_79 => ?_) (fun c_79 => absurd c_79 (by omega))
        refine lv_iconst (v := nI 0) hx hb dX7_may_107 (by decide) ?_
        refine lv_istore (lv' := [(4, .int (nI 0)), (3, .int (nI t)), (0, .ref (adr 0)), (1, .int (nI x)), (2, .int (nI mm))]) hx hb dX7_may_108 hl (by decide) rfl (fun ls hl => ?_)
        refine lp_gen hR (fun H locs hR => ?_)
        obtain ⟨j, hke⟩ : ∃ k : Nat, k = 0 := ⟨_, rfl⟩
        replace hl : lv_has ls 5 [(4, .int (nI j)), (3, .int (nI t)), (0, .ref (adr 0)), (1, .int (nI x)), (2, .int (nI mm))] := by rw [hke]; exact lv_sub hl [0, 1, 2, 3, 4] rfl
        have hlee : j ≤ 48 := by omega
        replace hR : rB G A adr S (mt_m S (mt_z S (mt_t S n (my0 X x mm) t) n) j) s.heap H locs := by rw [hke]; exact gw_B.to hR (by rw [ez, mt_m])
        clear hke
        generalize hde : 48 - j = de
        induction de generalizing j ls H locs with
        | zero =>
          have ej := sub0 hde hlee
          refine lv_iload hx hb dX7_may_110 (lv_at hl 0 rfl) ?_
          refine lv_bipush (v := nI 48) hx hb dX7_may_112 (by decide) ?_
          refine nv_icmp_ge (by omega) (by omega) hx hb dX7_may_114 (tgt := 139) (by decide) (fun c_114 => ?_) (fun c_114 => absurd c_114 (by omega))
          refine lv_iinc (v := nI (t + 1)) (lv' := [(3, .int (nI (t + 1))), (4, .int (nI j)), (0, .ref (adr 0)), (1, .int (nI x)), (2, .int (nI mm))]) hx hb dX7_may_139 hl (k := 1) rfl (nI_add _ _) (by decide) rfl (fun ls hl => ?_)
          refine lv_goto (tgt := 64) hx hb dX7_may_142 (by decide) ?_
          replace hR : rB G A adr S (mt_t S n (my0 X x mm) (t + 1)) s.heap H locs := gw_B.to hR (by rw [ej, mt_t, my_1])
          exact ihb _ _ _ _ (lv_sub hl [0, 2, 3, 4] rfl) (by omega) hR (by omega)
        | succ de ihe =>
          refine lv_iload hx hb dX7_may_110 (lv_at hl 0 rfl) ?_
          refine lv_bipush (v := nI 48) hx hb dX7_may_112 (by decide) ?_
          refine nv_icmp_ge (by omega) (by omega) hx hb dX7_may_114 (tgt := 139) (by decide) (fun c_114 => absurd c_114 (by omega)) (fun c_114 => ?_)
          refine lv_aload_n hx hb dX7_may_117 rfl (lv_at hl 2 rfl) ?_
          refine rg_33 F hK hR dX7_may_118 ?_
          refine lv_iload hx hb dX7_may_121 (lv_at hl 0 rfl) ?_
          refine ri_33 F hK hR (by omega) dX7_may_123 ?_
          refine lv_if_eq (tgt := 133) hx hb dX7_may_124 (by decide) (fun c_124 => ?_) (fun c_124 => ?_)
          · refine lv_iinc (v := nI (j + 1)) (lv' := [(4, .int (nI (j + 1))), (3, .int (nI t)), (0, .ref (adr 0)), (1, .int (nI x)), (2, .int (nI mm))]) hx hb dX7_may_133 hl (k := 0) rfl (nI_add _ _) (by decide) rfl (fun ls hl => ?_)
            refine lv_goto (tgt := 110) hx hb dX7_may_136 (by decide) ?_
            replace hR : rB G A adr S (mt_m S (mt_z S (mt_t S n (my0 X x mm) t) n) (j + 1)) s.heap H locs := gw_B.to hR (congrArg (rcel G adr S) (by rw [mt_m, if_pos c_124]))
            exact ihe _ _ _ _ (lv_sub hl [0, 1, 2, 3, 4] rfl) (by omega) hR (by omega)
          · refine lv_aload_n hx hb dX7_may_127 rfl (lv_at hl 2 rfl) ?_
            refine lv_iload hx hb dX7_may_128 (lv_at hl 0 rfl) ?_
            refine gcVv (As := [.int (nI j)]) F hK hR hml cv_X7_191 (o := 0) rfl rfl rfl (c_X7_mayActs l G A adr S (mt_m S (mt_z S (mt_t S n (my0 X x mm) t) n) j) j (by omega) hok) ⟨rfl, rfl⟩ ⟨Nat.le_of_ble_eq_true rfl, Nat.le_of_ble_eq_true rfl⟩ rfl rfl hl.1 (Nat.le_of_ble_eq_true rfl) dX7_may_130 ⟨Nat.zero_le _, Nat.zero_le _⟩ (fun H locs hR => ?_)
            refine lv_iinc (v := nI (j + 1)) (lv' := [(4, .int (nI (j + 1))), (3, .int (nI t)), (0, .ref (adr 0)), (1, .int (nI x)), (2, .int (nI mm))]) hx hb dX7_may_133 hl (k := 0) rfl (nI_add _ _) (by decide) rfl (fun ls hl => ?_)
            refine lv_goto (tgt := 110) hx hb dX7_may_136 (by decide) ?_
            replace hR : rB G A adr S (mt_m S (mt_z S (mt_t S n (my0 X x mm) t) n) (j + 1)) s.heap H locs := gw_B.to hR (congrArg (rcel G adr S) (by rw [mt_m, if_neg c_124]))
            exact ihe _ _ _ _ (lv_sub hl [0, 1, 2, 3, 4] rfl) (by omega) hR (by omega)
      | succ dc ihc =>
        refine lv_iload hx hb dX7_may_73 (lv_at hl 0 rfl) ?_
        refine lv_aload_n hx hb dX7_may_75 rfl (lv_at hl 2 rfl) ?_
        refine rg_0 F hK hR dX7_may_76 ?_
        refine lv_eq (hn0) ?_
        refine nv_icmp_ge (by omega) (by omega) hx hb dX7_may_79 (tgt := 107) (by decide) (fun c_79 => absurd c_79 (by omega)) (fun c_79 => ?_)
        refine lv_aload_n hx hb dX7_may_82 rfl (lv_at hl 2 rfl) ?_
        refine rg_32 F hK hR dX7_may_83 ?_
        refine lv_iload hx hb dX7_may_86 (lv_at hl 0 rfl) ?_
        refine lv_ishr hx hb dX7_may_88 ?_
        refine lv_iconst (v := nI 1) hx hb dX7_may_89 (by decide) ?_
        refine lv_iand hx hb dX7_may_90 ?_
        refine lv_iconst (v := nI 1) hx hb dX7_may_91 (by decide) ?_
        refine lv_icmp_ne (tgt := 101) hx hb dX7_may_92 (by decide) (fun c_92 => ?_) (fun c_92 => ?_)
        · refine lv_iinc (v := nI (z + 1)) (lv' := [(4, .int (nI (z + 1))), (3, .int (nI t)), (0, .ref (adr 0)), (1, .int (nI x)), (2, .int (nI mm))]) hx hb dX7_may_101 hl (k := 0) rfl (nI_add _ _) (by decide) rfl (fun ls hl => ?_)
          refine lv_goto (tgt := 73) hx hb dX7_may_104 (by decide) ?_
          replace hR : rB G A adr S (mt_z S (mt_t S n (my0 X x mm) t) (z + 1)) s.heap H locs := gw_B.to hR (congrArg (rcel G adr S) (by rw [mt_z, if_neg c_92]))
          exact ihc _ _ _ _ (lv_sub hl [0, 1, 2, 3, 4] rfl) (by omega) hR (by omega)
        · refine lv_aload_n hx hb dX7_may_95 rfl (lv_at hl 2 rfl) ?_
          refine lv_iload hx hb dX7_may_96 (lv_at hl 0 rfl) ?_
          refine gcVv (As := [.int (nI z)]) F hK hR hml cv_X7_188 (o := 0) rfl rfl rfl (c_X7_mayWant l G A adr S (mt_z S (mt_t S n (my0 X x mm) t) z) z (by omega) hfa) ⟨rfl, rfl⟩ ⟨Nat.le_of_ble_eq_true rfl, Nat.le_of_ble_eq_true rfl⟩ rfl rfl hl.1 (Nat.le_of_ble_eq_true rfl) dX7_may_98 ⟨Nat.zero_le _, Nat.zero_le _⟩ (fun H locs hR => ?_)
          refine lv_iinc (v := nI (z + 1)) (lv' := [(4, .int (nI (z + 1))), (3, .int (nI t)), (0, .ref (adr 0)), (1, .int (nI x)), (2, .int (nI mm))]) hx hb dX7_may_101 hl (k := 0) rfl (nI_add _ _) (by decide) rfl (fun ls hl => ?_)
          refine lv_goto (tgt := 73) hx hb dX7_may_104 (by decide) ?_
          replace hR : rB G A adr S (mt_z S (mt_t S n (my0 X x mm) t) (z + 1)) s.heap H locs := gw_B.to hR (congrArg (rcel G adr S) (by rw [mt_z, if_pos c_92]))
          exact ihc _ _ _ _ (lv_sub hl [0, 1, 2, 3, 4] rfl) (by omega) hR (by omega)
  | succ da iha =>
    refine lv_iload_n hx hb dX7_may_25 rfl (lv_at hl 0 rfl) ?_
    refine lv_bipush (v := nI 48) hx hb dX7_may_26 (by decide) ?_
    refine nv_icmp_ge (by omega) (by omega) hx hb dX7_may_28 (tgt := 44) (by decide) (fun c_28 => absurd c_28 (by omega)) (fun c_28 => ?_)
    refine lv_aload_n hx hb dX7_may_31 rfl (lv_at hl 1 rfl) ?_
    refine rg_33 F hK hR dX7_may_32 ?_
    refine lv_iload_n hx hb dX7_may_35 rfl (lv_at hl 0 rfl) ?_
    refine lv_iconst (v := nI 0) hx hb dX7_may_36 (by decide) ?_
    refine rs_33 F hK hR (by omega) (by decide) dX7_may_37 (fun H locs hR => ?_)
    refine lv_iinc (v := nI (k + 1)) (lv' := [(3, .int (nI (k + 1))), (0, .ref (adr 0)), (1, .int (nI x)), (2, .int (nI mm))]) hx hb dX7_may_38 hl (k := 0) rfl (nI_add _ _) (by decide) rfl (fun ls hl => ?_)
    refine lv_goto (tgt := 25) hx hb dX7_may_41 (by decide) ?_
    exact iha _ _ _ _ (lv_sub hl [0, 1, 2, 3] rfl) (by omega) hR (by omega)
/-- ahead: the chain of parents from z on, ac steps; all: what was met -/
noncomputable def ah (S : Nat → Nat → Int32) : Nat → Nat → Int32 → Int32
  | 0, _, al => al
  | d + 1, z, al => if S 3 z = -1 then (al ||| ml S z (z + 1) (b1 z) (nI 0)) ||| nI 0 else ah S d (S 3 z).toNatClampNeg ((al ||| ml S z (z + 1) (b1 z) (nI 0)) ||| (nI 1 <<< (S 3 z &&& 31)))
set_option maxHeartbeats 4000000 in
set_option maxRecDepth 100000 in
/-- ahead: one that there is not -/
theorem c_X7_aheadU (l : Launch) (G : gw_G) (A : Nat → Prop) (adr : Nat → Nat) (S X : Nat → Nat → Int32) (n : Nat) (x0 x1 : Int32) (hn0 : S 0 0 = nI n) (hn : n ≤ 12) (hno : sp_has (S 0 0) x0 = 0 ∨ sp_has (S 0 0) x1 = 0) : gm l yX7_ahead cX7_ahead 5 (some .int) (rmL 1) 0 0 A [.ref (adr 0), .int x0, .int x1] (gW G A adr (rcel G adr S X)) (gW G A adr (rcel G adr S X)) (some (.int (-2))) := by
  refine gm_of (own := RX7) (by decide) rfl (Nat.le_of_ble_eq_true rfl) ?_
  intro p e s m below meth c ls F hml hr hlk hnm hK hR hl
  have hx := F.1
  have hb := F.2.1
  replace hl : lv_has ls 5 [(0, .ref (adr 0)), (1, .int x0), (2, .int x1)] := hl
  refine lv_aload_n hx hb dX7_ahead_0 rfl (lv_at hl 0 rfl) ?_
  refine lv_iload_n hx hb dX7_ahead_1 rfl (lv_at hl 1 rfl) ?_
  refine gcVi (As := [.int x0]) F hK hR hml cv_X7_87 (o := 0) rfl rfl rfl (c_X7_has l G A adr S X x0) ⟨rfl, rfl⟩ ⟨Nat.le_of_ble_eq_true rfl, Nat.le_of_ble_eq_true rfl⟩ rfl rfl hl.1 (Nat.le_of_ble_eq_true rfl) dX7_ahead_2 ⟨Nat.zero_le _, Nat.zero_le _⟩ (fun H locs hR => ?_)
  refine lv_if_eq (tgt := 16) hx hb dX7_ahead_5 (by decide) (fun c_5 => ?_) (fun c_5 => ?_)
  · refine lv_bipush (v := (-2)) hx hb dX7_ahead_16 (by decide) ?_
    exact gr_i F hr hlk hK hR dX7_ahead_18 (rfl) (rfl)
  · refine lv_aload_n hx hb dX7_ahead_8 rfl (lv_at hl 0 rfl) ?_
    refine lv_iload_n hx hb dX7_ahead_9 rfl (lv_at hl 2 rfl) ?_
    refine gcVi (As := [.int x1]) F hK hR hml cv_X7_87 (o := 0) rfl rfl rfl (c_X7_has l G A adr S X x1) ⟨rfl, rfl⟩ ⟨Nat.le_of_ble_eq_true rfl, Nat.le_of_ble_eq_true rfl⟩ rfl rfl hl.1 (Nat.le_of_ble_eq_true rfl) dX7_ahead_10 ⟨Nat.zero_le _, Nat.zero_le _⟩ (fun H locs hR => ?_)
    refine lv_if_ne (tgt := 19) hx hb dX7_ahead_13 (by decide) (fun c_13 => absurd c_13 (fun q => q (hno.resolve_left c_5))) (fun c_13 => ?_)
    refine lv_bipush (v := (-2)) hx hb dX7_ahead_16 (by decide) ?_
    exact gr_i F hr hlk hK hR dX7_ahead_18 (rfl) (rfl)
set_option maxHeartbeats 4000000 in
set_option maxRecDepth 100000 in
/-- ahead of a face -/
theorem c_X7_aheadF (l : Launch) (G : gw_G) (A : Nat → Prop) (adr : Nat → Nat) (S X : Nat → Nat → Int32) (n x y : Nat) (hn0 : S 0 0 = nI n) (hn : n ≤ 12) (hxn : x < n) (hyn : y < n) (hfx : ¬ S 1 x = 0) : gm l yX7_ahead cX7_ahead 5 (some .int) (rmL 1) 0 0 A [.ref (adr 0), .int (nI x), .int (nI y)] (gW G A adr (rcel G adr S X)) (gW G A adr (rcel G adr S X)) (some (.int ((nI 0 >>> (nI y &&& 31)) &&& nI 1))) := by
  refine gm_of (own := RX7) (by decide) rfl (Nat.le_of_ble_eq_true rfl) ?_
  intro p e s m below meth c ls F hml hr hlk hnm hK hR hl
  have hx := F.1
  have hb := F.2.1
  replace hl : lv_has ls 5 [(0, .ref (adr 0)), (1, .int (nI x)), (2, .int (nI y))] := hl
  refine lv_aload_n hx hb dX7_ahead_0 rfl (lv_at hl 0 rfl) ?_
  refine lv_iload_n hx hb dX7_ahead_1 rfl (lv_at hl 1 rfl) ?_
  refine gcVi (As := [.int (nI x)]) F hK hR hml cv_X7_87 (o := 0) rfl rfl rfl (c_X7_has l G A adr S X (nI x)) ⟨rfl, rfl⟩ ⟨Nat.le_of_ble_eq_true rfl, Nat.le_of_ble_eq_true rfl⟩ rfl rfl hl.1 (Nat.le_of_ble_eq_true rfl) dX7_ahead_2 ⟨Nat.zero_le _, Nat.zero_le _⟩ (fun H locs hR => ?_)
  refine lv_if_eq (tgt := 16) hx hb dX7_ahead_5 (by decide) (fun c_5 => absurd c_5 ((by rw [hn0]; unfold sp_has; rw [if_neg (nI_pos (by omega)), if_neg (nI_ge hxn (by omega))]; decide))) (fun c_5 => ?_)
  refine lv_aload_n hx hb dX7_ahead_8 rfl (lv_at hl 0 rfl) ?_
  refine lv_iload_n hx hb dX7_ahead_9 rfl (lv_at hl 2 rfl) ?_
  refine gcVi (As := [.int (nI y)]) F hK hR hml cv_X7_87 (o := 0) rfl rfl rfl (c_X7_has l G A adr S X (nI y)) ⟨rfl, rfl⟩ ⟨Nat.le_of_ble_eq_true rfl, Nat.le_of_ble_eq_true rfl⟩ rfl rfl hl.1 (Nat.le_of_ble_eq_true rfl) dX7_ahead_10 ⟨Nat.zero_le _, Nat.zero_le _⟩ (fun H locs hR => ?_)
  refine lv_if_ne (tgt := 19) hx hb dX7_ahead_13 (by decide) (fun c_13 => ?_) (fun c_13 => absurd c_13 ((by rw [hn0]; unfold sp_has; rw [if_neg (nI_pos (by omega)), if_neg (nI_ge hyn (by omega))]; decide)))
  refine lv_iconst (v := nI 0) hx hb dX7_ahead_19 (by decide) ?_
  refine lv_istore_n (lv' := [(3, .int (nI 0)), (0, .ref (adr 0)), (1, .int (nI x)), (2, .int (nI y))]) hx hb dX7_ahead_20 rfl hl (by decide) rfl (fun ls hl => ?_)
  refine lv_iload_n hx hb dX7_ahead_21 rfl (lv_at hl 2 rfl) ?_
  refine lv_istore (lv' := [(4, .int (nI x)), (3, .int (nI 0)), (0, .ref (adr 0)), (1, .int (nI x)), (2, .int (nI y))]) hx hb dX7_ahead_22 hl (by decide) rfl (fun ls hl => ?_)
  refine lv_iload hx hb dX7_ahead_24 (lv_at hl 0 rfl) ?_
  refine lv_iconst (v := (-1)) hx hb dX7_ahead_26 (by decide) ?_
  refine lv_icmp_eq (tgt := 86) hx hb dX7_ahead_27 (by decide) (fun c_27 => absurd c_27 (nI_m1 (by omega))) (fun c_27 => ?_)
  refine lv_aload_n hx hb dX7_ahead_30 rfl (lv_at hl 2 rfl) ?_
  refine rg_1 F hK hR dX7_ahead_31 ?_
  refine lv_iload_n hx hb dX7_ahead_34 rfl (lv_at hl 3 rfl) ?_
  refine ri_1 F hK hR (by omega) dX7_ahead_35 ?_
  refine lv_if_ne (tgt := 86) hx hb dX7_ahead_36 (by decide) (fun c_36 => ?_) (fun c_36 => absurd c_36 (hfx))
  refine lv_iload_n hx hb dX7_ahead_86 rfl (lv_at hl 1 rfl) ?_
  refine lv_iload_n hx hb dX7_ahead_87 rfl (lv_at hl 4 rfl) ?_
  refine lv_ishr hx hb dX7_ahead_88 ?_
  refine lv_iconst (v := nI 1) hx hb dX7_ahead_89 (by decide) ?_
  refine lv_iand hx hb dX7_ahead_90 ?_
  exact gr_i F hr hlk hK hR dX7_ahead_91 (rfl) (rfl)
noncomputable def ahX (S : Nat → Nat → Int32) : Nat → Nat → Int32
  | 0, _ => nI 0
  | d + 1, z => if S 3 z = -1 then ml S z (z + 1) (b1 z) (nI 0) else ahX S d (S 3 z).toNatClampNeg
set_option maxHeartbeats 4000000 in
set_option maxRecDepth 100000 in
/-- ahead of a class -/
theorem c_X7_aheadK (l : Launch) (G : gw_G) (A : Nat → Prop) (adr : Nat → Nat) (S X : Nat → Nat → Int32) (n x y : Nat) (hn0 : S 0 0 = nI n) (hn : n ≤ 12) (hxn : x < n) (hyn : y < n) (hfx : S 1 x = 0) (hfa : ∀ x, x < 12 → ∃ fc, fc ≤ 3 ∧ S 4 x = nI fc) (hpar : ∀ z, z < n → S 3 z = -1 ∨ ∃ q, q < z ∧ S 3 z = nI q) : gm l yX7_ahead cX7_ahead 5 (some .int) (rmL 1) 0 0 A [.ref (adr 0), .int (nI x), .int (nI y)] (gW G A adr (rcel G adr S X)) (gW G A adr (rcel G adr S (m2 X 32 0 (ahX S (x + 1) x)))) (some (.int ((ah S (x + 1) x (nI 0) >>> (nI y &&& 31)) &&& nI 1))) := by
  refine gm_of (own := RX7) (by decide) rfl (Nat.le_of_ble_eq_true rfl) ?_
  intro p e s m below meth c ls F hml hr hlk hnm hK hR hl
  have hx := F.1
  have hb := F.2.1
  replace hl : lv_has ls 5 [(0, .ref (adr 0)), (1, .int (nI x)), (2, .int (nI y))] := hl
  refine lv_aload_n hx hb dX7_ahead_0 rfl (lv_at hl 0 rfl) ?_
  refine lv_iload_n hx hb dX7_ahead_1 rfl (lv_at hl 1 rfl) ?_
  refine gcVi (As := [.int (nI x)]) F hK hR hml cv_X7_87 (o := 0) rfl rfl rfl (c_X7_has l G A adr S X (nI x)) ⟨rfl, rfl⟩ ⟨Nat.le_of_ble_eq_true rfl, Nat.le_of_ble_eq_true rfl⟩ rfl rfl hl.1 (Nat.le_of_ble_eq_true rfl) dX7_ahead_2 ⟨Nat.zero_le _, Nat.zero_le _⟩ (fun H locs hR => ?_)
  refine lv_if_eq (tgt := 16) hx hb dX7_ahead_5 (by decide) (fun c_5 => absurd c_5 ((by rw [hn0]; unfold sp_has; rw [if_neg (nI_pos (by omega)), if_neg (nI_ge hxn (by omega))]; decide))) (fun c_5 => ?_)
  refine lv_aload_n hx hb dX7_ahead_8 rfl (lv_at hl 0 rfl) ?_
  refine lv_iload_n hx hb dX7_ahead_9 rfl (lv_at hl 2 rfl) ?_
  refine gcVi (As := [.int (nI y)]) F hK hR hml cv_X7_87 (o := 0) rfl rfl rfl (c_X7_has l G A adr S X (nI y)) ⟨rfl, rfl⟩ ⟨Nat.le_of_ble_eq_true rfl, Nat.le_of_ble_eq_true rfl⟩ rfl rfl hl.1 (Nat.le_of_ble_eq_true rfl) dX7_ahead_10 ⟨Nat.zero_le _, Nat.zero_le _⟩ (fun H locs hR => ?_)
  refine lv_if_ne (tgt := 19) hx hb dX7_ahead_13 (by decide) (fun c_13 => ?_) (fun c_13 => absurd c_13 ((by rw [hn0]; unfold sp_has; rw [if_neg (nI_pos (by omega)), if_neg (nI_ge hyn (by omega))]; decide)))
  refine lv_iconst (v := nI 0) hx hb dX7_ahead_19 (by decide) ?_
  refine lv_istore_n (lv' := [(3, .int (nI 0)), (0, .ref (adr 0)), (1, .int (nI x)), (2, .int (nI y))]) hx hb dX7_ahead_20 rfl hl (by decide) rfl (fun ls hl => ?_)
  refine lv_iload_n hx hb dX7_ahead_21 rfl (lv_at hl 2 rfl) ?_
  refine lv_istore (lv' := [(4, .int (nI x)), (3, .int (nI 0)), (0, .ref (adr 0)), (1, .int (nI x)), (2, .int (nI y))]) hx hb dX7_ahead_22 hl (by decide) rfl (fun ls hl => ?_)
  refine lp_gen hR (fun H locs hR => ?_)
  have hQ : ah S (x + 1) x (nI 0) = ah S (x + 1) x (nI 0) := rfl
  have hP : ahX S (x + 1) x = ahX S (x + 1) x := rfl
  obtain ⟨af, haf⟩ : ∃ af, af = ah S (x + 1) x (nI 0) := ⟨_, rfl⟩
  obtain ⟨wf, hwf⟩ : ∃ wf, wf = ahX S (x + 1) x := ⟨_, rfl⟩
  rw [← haf, ← hwf]
  clear hQ hP
  obtain ⟨z, hz⟩ : ∃ z, z = x := ⟨_, rfl⟩
  obtain ⟨al, hal⟩ : ∃ al, al = nI 0 := ⟨_, rfl⟩
  obtain ⟨w, hw⟩ : ∃ w, w = X 32 0 := ⟨_, rfl⟩
  obtain ⟨d, hd⟩ : ∃ d, d = x + 1 := ⟨_, rfl⟩
  have hQ : ah S d z al = af := by rw [hd, hz, hal, haf]
  have hP : ahX S d z = wf := by rw [hd, hz, hwf]
  have hzd : z < d := by omega
  have hzn12 : z < n := by omega
  replace hl : lv_has ls 5 [(4, .int (nI z)), (3, .int al), (0, .ref (adr 0)), (1, .int (nI x)), (2, .int (nI y))] := by rw [hz, hal]; exact lv_sub hl [0, 1, 2, 3, 4] rfl
  replace hR : rB G A adr S (m2 X 32 0 w) s.heap H locs := gw_B.to hR (by rw [m2_id hw.symm])
  clear hz hal hw hd haf hwf
  induction d generalizing z al w ls H locs with
  | zero => exact absurd hzd (by omega)
  | succ d ih =>
    rcases hpar z (by omega) with hzn | ⟨zp, hzp, hze⟩
    · skip
      refine lv_iload hx hb dX7_ahead_24 (lv_at hl 0 rfl) ?_
      refine lv_iconst (v := (-1)) hx hb dX7_ahead_26 (by decide) ?_
      refine lv_icmp_eq (tgt := 86) hx hb dX7_ahead_27 (by decide) (fun c_27 => absurd c_27 (nI_m1 (by omega))) (fun c_27 => ?_)
      refine lv_aload_n hx hb dX7_ahead_30 rfl (lv_at hl 2 rfl) ?_
      refine rg_1 F hK hR dX7_ahead_31 ?_
      refine lv_iload_n hx hb dX7_ahead_34 rfl (lv_at hl 3 rfl) ?_
      refine ri_1 F hK hR (by omega) dX7_ahead_35 ?_
      refine lv_if_ne (tgt := 86) hx hb dX7_ahead_36 (by decide) (fun c_36 => absurd c_36 (fun q => q hfx)) (fun c_36 => ?_)
      refine lv_aload_n hx hb dX7_ahead_39 rfl (lv_at hl 2 rfl) ?_
      refine lv_iconst (v := nI 0) hx hb dX7_ahead_40 (by decide) ?_
      refine rp_32 F hK hR dX7_ahead_41 (fun H locs hR => ?_)
      refine lv_aload_n hx hb dX7_ahead_44 rfl (lv_at hl 2 rfl) ?_
      refine lv_iload hx hb dX7_ahead_45 (lv_at hl 0 rfl) ?_
      refine gcVv (As := [.int (nI z)]) F hK hR hml cv_X7_185 (o := 0) rfl rfl rfl (c_X7_mayLook l G A adr S (m2 (m2 X 32 0 w) 32 0 (nI 0)) z (nI 0) (by omega) (m2_at) hfa) ⟨rfl, rfl⟩ ⟨Nat.le_of_ble_eq_true rfl, Nat.le_of_ble_eq_true rfl⟩ rfl rfl hl.1 (Nat.le_of_ble_eq_true rfl) dX7_ahead_47 ⟨Nat.zero_le _, Nat.zero_le _⟩ (fun H locs hR => ?_)
      refine lv_iload_n hx hb dX7_ahead_50 rfl (lv_at hl 1 rfl) ?_
      refine lv_aload_n hx hb dX7_ahead_51 rfl (lv_at hl 2 rfl) ?_
      refine rg_32 F hK hR dX7_ahead_52 ?_
      refine lv_eq (m2_at) ?_
      refine lv_ior hx hb dX7_ahead_55 ?_
      refine lv_istore_n (lv' := [(3, .int (al ||| (ml S z (z + 1) (b1 z) (nI 0)))), (4, .int (nI z)), (0, .ref (adr 0)), (1, .int (nI x)), (2, .int (nI y))]) hx hb dX7_ahead_56 rfl hl (by decide) rfl (fun ls hl => ?_)
      refine lv_aload_n hx hb dX7_ahead_57 rfl (lv_at hl 2 rfl) ?_
      refine rg_3 F hK hR dX7_ahead_58 ?_
      refine lv_iload hx hb dX7_ahead_61 (lv_at hl 1 rfl) ?_
      refine ri_3 F hK hR (by omega) dX7_ahead_63 ?_
      refine lv_eq (hzn) ?_
      refine lv_istore (lv' := [(4, .int (-1)), (3, .int (al ||| (ml S z (z + 1) (b1 z) (nI 0)))), (0, .ref (adr 0)), (1, .int (nI x)), (2, .int (nI y))]) hx hb dX7_ahead_64 hl (by decide) rfl (fun ls hl => ?_)
      refine lv_iload_n hx hb dX7_ahead_66 rfl (lv_at hl 1 rfl) ?_
      refine lv_iload hx hb dX7_ahead_67 (lv_at hl 0 rfl) ?_
      refine lv_iconst (v := (-1)) hx hb dX7_ahead_69 (by decide) ?_
      refine lv_icmp_ne (tgt := 77) hx hb dX7_ahead_70 (by decide) (fun c_70 => absurd c_70 (fun q => q rfl)) (fun c_70 => ?_)
      refine lv_iconst (v := nI 0) hx hb dX7_ahead_73 (by decide) ?_
      refine lv_goto (tgt := 81) hx hb dX7_ahead_74 (by decide) ?_
      refine lv_ior hx hb dX7_ahead_81 ?_
      refine lv_istore_n (lv' := [(3, .int ((al ||| (ml S z (z + 1) (b1 z) (nI 0))) ||| (nI 0))), (4, .int (-1)), (0, .ref (adr 0)), (1, .int (nI x)), (2, .int (nI y))]) hx hb dX7_ahead_82 rfl hl (by decide) rfl (fun ls hl => ?_)
      refine lv_goto (tgt := 24) hx hb dX7_ahead_83 (by decide) ?_
      replace hR : rB G A adr S (m2 X 32 0 (ml S z (z + 1) (b1 z) (nI 0))) s.heap H locs := gw_B.to hR (by rw [m2_tw, m2_tw])
      have hQ2 : (al ||| ml S z (z + 1) (b1 z) (nI 0)) ||| nI 0 = af := by rw [← hQ, ah, if_pos hzn]
      have hP2 : ml S z (z + 1) (b1 z) (nI 0) = wf := by rw [← hP, ahX, if_pos hzn]
      refine lv_iload hx hb dX7_ahead_24 (lv_at hl 1 rfl) ?_
      refine lv_iconst (v := (-1)) hx hb dX7_ahead_26 (by decide) ?_
      refine lv_icmp_eq (tgt := 86) hx hb dX7_ahead_27 (by decide) (fun c_27 => ?_) (fun c_27 => absurd rfl c_27)
      refine lv_iload_n hx hb dX7_ahead_86 rfl (lv_at hl 0 rfl) ?_
      refine lv_iload_n hx hb dX7_ahead_87 rfl (lv_at hl 4 rfl) ?_
      refine lv_ishr hx hb dX7_ahead_88 ?_
      refine lv_iconst (v := nI 1) hx hb dX7_ahead_89 (by decide) ?_
      refine lv_iand hx hb dX7_ahead_90 ?_
      exact gr_i F hr hlk hK hR dX7_ahead_91 (by rw [hQ2]) (by rw [hP2])
    · skip
      refine lv_iload hx hb dX7_ahead_24 (lv_at hl 0 rfl) ?_
      refine lv_iconst (v := (-1)) hx hb dX7_ahead_26 (by decide) ?_
      refine lv_icmp_eq (tgt := 86) hx hb dX7_ahead_27 (by decide) (fun c_27 => absurd c_27 (nI_m1 (by omega))) (fun c_27 => ?_)
      refine lv_aload_n hx hb dX7_ahead_30 rfl (lv_at hl 2 rfl) ?_
      refine rg_1 F hK hR dX7_ahead_31 ?_
      refine lv_iload_n hx hb dX7_ahead_34 rfl (lv_at hl 3 rfl) ?_
      refine ri_1 F hK hR (by omega) dX7_ahead_35 ?_
      refine lv_if_ne (tgt := 86) hx hb dX7_ahead_36 (by decide) (fun c_36 => absurd c_36 (fun q => q hfx)) (fun c_36 => ?_)
      refine lv_aload_n hx hb dX7_ahead_39 rfl (lv_at hl 2 rfl) ?_
      refine lv_iconst (v := nI 0) hx hb dX7_ahead_40 (by decide) ?_
      refine rp_32 F hK hR dX7_ahead_41 (fun H locs hR => ?_)
      refine lv_aload_n hx hb dX7_ahead_44 rfl (lv_at hl 2 rfl) ?_
      refine lv_iload hx hb dX7_ahead_45 (lv_at hl 0 rfl) ?_
      refine gcVv (As := [.int (nI z)]) F hK hR hml cv_X7_185 (o := 0) rfl rfl rfl (c_X7_mayLook l G A adr S (m2 (m2 X 32 0 w) 32 0 (nI 0)) z (nI 0) (by omega) (m2_at) hfa) ⟨rfl, rfl⟩ ⟨Nat.le_of_ble_eq_true rfl, Nat.le_of_ble_eq_true rfl⟩ rfl rfl hl.1 (Nat.le_of_ble_eq_true rfl) dX7_ahead_47 ⟨Nat.zero_le _, Nat.zero_le _⟩ (fun H locs hR => ?_)
      refine lv_iload_n hx hb dX7_ahead_50 rfl (lv_at hl 1 rfl) ?_
      refine lv_aload_n hx hb dX7_ahead_51 rfl (lv_at hl 2 rfl) ?_
      refine rg_32 F hK hR dX7_ahead_52 ?_
      refine lv_eq (m2_at) ?_
      refine lv_ior hx hb dX7_ahead_55 ?_
      refine lv_istore_n (lv' := [(3, .int (al ||| (ml S z (z + 1) (b1 z) (nI 0)))), (4, .int (nI z)), (0, .ref (adr 0)), (1, .int (nI x)), (2, .int (nI y))]) hx hb dX7_ahead_56 rfl hl (by decide) rfl (fun ls hl => ?_)
      refine lv_aload_n hx hb dX7_ahead_57 rfl (lv_at hl 2 rfl) ?_
      refine rg_3 F hK hR dX7_ahead_58 ?_
      refine lv_iload hx hb dX7_ahead_61 (lv_at hl 1 rfl) ?_
      refine ri_3 F hK hR (by omega) dX7_ahead_63 ?_
      refine lv_eq (hze) ?_
      refine lv_istore (lv' := [(4, .int (nI zp)), (3, .int (al ||| (ml S z (z + 1) (b1 z) (nI 0)))), (0, .ref (adr 0)), (1, .int (nI x)), (2, .int (nI y))]) hx hb dX7_ahead_64 hl (by decide) rfl (fun ls hl => ?_)
      refine lv_iload_n hx hb dX7_ahead_66 rfl (lv_at hl 1 rfl) ?_
      refine lv_iload hx hb dX7_ahead_67 (lv_at hl 0 rfl) ?_
      refine lv_iconst (v := (-1)) hx hb dX7_ahead_69 (by decide) ?_
      refine lv_icmp_ne (tgt := 77) hx hb dX7_ahead_70 (by decide) (fun c_70 => ?_) (fun c_70 => absurd c_70 (nI_m1 (by omega)))
      refine lv_iconst (v := nI 1) hx hb dX7_ahead_77 (by decide) ?_
      refine lv_iload hx hb dX7_ahead_78 (lv_at hl 0 rfl) ?_
      refine lv_ishl hx hb dX7_ahead_80 ?_
      refine lv_ior hx hb dX7_ahead_81 ?_
      refine lv_istore_n (lv' := [(3, .int ((al ||| (ml S z (z + 1) (b1 z) (nI 0))) ||| ((nI 1) <<< ((nI zp) &&& 31)))), (4, .int (nI zp)), (0, .ref (adr 0)), (1, .int (nI x)), (2, .int (nI y))]) hx hb dX7_ahead_82 rfl hl (by decide) rfl (fun ls hl => ?_)
      refine lv_goto (tgt := 24) hx hb dX7_ahead_83 (by decide) ?_
      replace hR : rB G A adr S (m2 X 32 0 (ml S z (z + 1) (b1 z) (nI 0))) s.heap H locs := gw_B.to hR (by rw [m2_tw, m2_tw])
      have hQ2 : ah S d zp ((al ||| ml S z (z + 1) (b1 z) (nI 0)) ||| (nI 1 <<< (nI zp &&& 31))) = af := by rw [← hQ, ah, if_neg (by rw [hze]; exact nI_m1 (by omega)), hze, nI_clamp (by omega)]
      have hP2 : ahX S d zp = wf := by rw [← hP, ahX, if_neg (by rw [hze]; exact nI_m1 (by omega)), hze, nI_clamp (by omega)]
      exact ih _ _ _ _ _ _ hQ2 hP2 (by omega) (by omega) (lv_sub hl [1, 0, 2, 3, 4] rfl) hR
