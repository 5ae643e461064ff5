/-! THE REFERENCE, 8: may, ahead -/
theorem m2_cm {M : Nat → Nat → Int32} {k i k2 i2 : Nat} {x y : Int32} (h : k ≠ k2) : m2 (m2 M k i x) k2 i2 y = m2 (m2 M k2 i2 y) k i x := by
  funext a
  by_cases h1 : a = k
  · subst h1
    rw [m2_ne h, m2_eq, m2_eq, m2_ne h]
  · by_cases h2 : a = k2
    · subst h2
      rw [m2_eq, m2_ne h1, m2_ne h1, m2_eq]
    · rw [m2_ne h2, m2_ne h1, m2_ne h1, m2_ne h2]
theorem sub0 {a b : Nat} (h : a - b = 0) (h2 : b ≤ a) : b = a := by omega
/-- the bit f of w -/
def bz (w : Int32) (f : Nat) : Prop := (w >>> (nI f &&& 31)) &&& nI 1 = nI 1
def b1 (f : Nat) : Int32 := nI 1 <<< (nI f &&& 31)
def ml_fs (S : Nat → Nat → Int32) (f : Nat) (met : Int32) : Nat → Int32
  | 0 => met
  | k + 1 => ml_fs S f met k ||| (nI 1 <<< (S 5 (3 * f + k) &&& 31))
def ml_w (S : Nat → Nat → Int32) (x f : Nat) (w : Int32) : Int32 := w ||| (if f = x then nI 0 else if S 2 f = 0 then nI 0 else b1 f)
theorem bz_dec (w : Int32) (f : Nat) : bz w f ∨ ¬ bz w f := Classical.em _
noncomputable def ml (S : Nat → Nat → Int32) (x : Nat) : Nat → Int32 → Int32 → Int32
  | 0, _, w => w
  | f + 1, met, w => match Classical.propDecidable (bz met f) with
    | .isTrue _ => ml S x f (ml_fs S f met (S 4 f).toNatClampNeg) (ml_w S x f w)
    | .isFalse _ => ml S x f met w
theorem ml_t {S : Nat → Nat → Int32} {x f : Nat} {met w : Int32} (h : bz met f) : ml S x (f + 1) met w = ml S x f (ml_fs S f met (S 4 f).toNatClampNeg) (ml_w S x f w) := by
  rw [ml]
  cases Classical.propDecidable (bz met f) with
  | isTrue _ => rfl
  | isFalse q => exact absurd h q
theorem ml_f {S : Nat → Nat → Int32} {x f : Nat} {met w : Int32} (h : ¬ bz met f) : ml S x (f + 1) met w = ml S x f met w := by
  rw [ml]
  cases Classical.propDecidable (bz met f) with
  | isTrue q => exact absurd q h
  | isFalse _ => rfl
set_option maxHeartbeats 4000000 in
set_option maxRecDepth 100000 in
/-- mayLook(x) -/
theorem c_X7_mayLook (l : Launch) (G : gw_G) (A : Nat → Prop) (adr : Nat → Nat) (S X : Nat → Nat → Int32) (x : Nat) (w : Int32) (hxx : x < 12) (hw : X 32 0 = w) (hfa : ∀ x, x < 12 → ∃ fc, fc ≤ 3 ∧ S 4 x = nI fc) : gm l yX7_mayLook cX7_mayLook 5 none (rmL 0) 0 0 A [.ref (adr 0), .int (nI x)] (gW G A adr (rcel G adr S X)) (gW G A adr (rcel G adr S (m2 X 32 0 (ml S x (x + 1) (b1 x) w)))) none := by
  refine gm_of (own := RX7) (by decide) rfl (Nat.le_of_ble_eq_true rfl) ?_
  intro p e s m below meth c ls F hml hr hlk hnm hK hR hl
  have hx := F.1
  have hb := F.2.1
  replace hl : lv_has ls 5 [(0, .ref (adr 0)), (1, .int (nI x))] := hl
  refine lv_iconst (v := nI 1) hx hb dX7_mayLook_0 (by decide) ?_
  refine lv_iload_n hx hb dX7_mayLook_1 rfl (lv_at hl 1 rfl) ?_
  refine lv_ishl hx hb dX7_mayLook_2 ?_
  refine lv_istore_n (lv' := [(2, .int ((nI 1) <<< ((nI x) &&& 31))), (0, .ref (adr 0)), (1, .int (nI x))]) hx hb dX7_mayLook_3 rfl hl (by decide) rfl (fun ls hl => ?_)
  refine lv_iload_n hx hb dX7_mayLook_4 rfl (lv_at hl 2 rfl) ?_
  refine lv_istore_n (lv' := [(3, .int (nI x)), (2, .int ((nI 1) <<< ((nI x) &&& 31))), (0, .ref (adr 0)), (1, .int (nI x))]) hx hb dX7_mayLook_5 rfl hl (by decide) rfl (fun ls hl => ?_)
  refine lp_gen hR (fun H locs hR => ?_)
  generalize hme : nI 1 <<< (nI x &&& 31) = met at hl
  have hQ : ml S x (x + 1) met w = ml S x (x + 1) (b1 x) w := by rw [← hme]; rfl
  generalize ml S x (x + 1) (b1 x) w = wf at hQ ⊢
  obtain ⟨t, ht⟩ : ∃ t, t = x + 1 := ⟨_, rfl⟩
  rw [← ht] at hQ
  have ht1 : t ≤ x + 1 := by omega
  replace hl : lv_has ls 5 [(3, .int (nI t + (-1))), (2, .int met), (0, .ref (adr 0)), (1, .int (nI x))] := by rw [ht, pk_m1]; exact lv_sub hl [0, 1, 2, 3] rfl
  replace hR : rB G A adr S (m2 X 32 0 w) s.heap H locs := gw_B.to hR (by rw [m2_id hw])
  clear ht hme hw
  induction t generalizing met w ls H locs with
  | zero =>
    have hQ0 : w = wf := hQ
    refine lv_iload_n hx hb dX7_mayLook_6 rfl (lv_at hl 0 rfl) ?_
    refine lv_if_lt (tgt := 91) hx hb dX7_mayLook_7 (by decide) (fun c_7 => ?_) (fun c_7 => absurd (by decide) c_7)
    exact gr_v F hr hlk hK hR dX7_mayLook_91 (by rw [hQ0])
  | succ j ih =>
    replace hl : lv_has ls 5 [(3, .int (nI j)), (2, .int met), (0, .ref (adr 0)), (1, .int (nI x))] := by rw [← pk_m1]; exact hl
    refine lv_iload_n hx hb dX7_mayLook_6 rfl (lv_at hl 0 rfl) ?_
    refine nv_if_lt (by omega) hx hb dX7_mayLook_7 (tgt := 91) (by decide) ?_
    refine lv_iload_n hx hb dX7_mayLook_10 rfl (lv_at hl 1 rfl) ?_
    refine lv_iload_n hx hb dX7_mayLook_11 rfl (lv_at hl 0 rfl) ?_
    refine lv_ishr hx hb dX7_mayLook_12 ?_
    refine lv_iconst (v := nI 1) hx hb dX7_mayLook_13 (by decide) ?_
    refine lv_iand hx hb dX7_mayLook_14 ?_
    refine lv_iconst (v := nI 1) hx hb dX7_mayLook_15 (by decide) ?_
    refine lv_icmp_ne (tgt := 85) hx hb dX7_mayLook_16 (by decide) (fun c_16 => ?_) (fun c_16 => ?_)
    · have hQ2 : ml S x j met w = wf := by rw [← hQ, ml_f c_16]
      refine lv_iinc (v := (nI j) + (-1)) (lv' := [(3, .int ((nI j) + (-1))), (2, .int met), (0, .ref (adr 0)), (1, .int (nI x))]) hx hb dX7_mayLook_85 hl (k := 0) rfl (rfl) (by decide) rfl (fun ls hl => ?_)
      refine lv_goto (tgt := 6) hx hb dX7_mayLook_88 (by decide) ?_
      exact ih _ _ _ _ _ hQ2 (by omega) (lv_sub hl [0, 1, 2, 3] rfl) hR
    · refine lv_aload_n hx hb dX7_mayLook_19 rfl (lv_at hl 2 rfl) ?_
      refine lv_dup hx hb dX7_mayLook_20 rfl ?_
      refine rg_32 F hK hR dX7_mayLook_21 ?_
      refine lv_eq (m2_at) ?_
      refine lv_iload_n hx hb dX7_mayLook_24 rfl (lv_at hl 0 rfl) ?_
      refine lv_iload_n hx hb dX7_mayLook_25 rfl (lv_at hl 3 rfl) ?_
      refine nv_icmp_eq (by omega) (by omega) hx hb dX7_mayLook_26 (tgt := 44) (by decide) (fun c_26 => ?_) (fun c_26 => ?_)
      · refine lv_iconst (v := nI 0) hx hb dX7_mayLook_44 (by decide) ?_
        refine lv_ior hx hb dX7_mayLook_45 ?_
        refine rp_32 F hK hR dX7_mayLook_46 (fun H locs hR => ?_)
        replace hR : rB G A adr S (m2 X 32 0 (ml_w S x j w)) s.heap H locs := gw_B.to hR (by rw [m2_tw]; unfold ml_w b1; repeat (first | rw [if_pos c_7] | rw [if_neg c_7] | rw [if_neg (not_not_intro c_7)] | rw [if_pos c_16] | rw [if_neg c_16] | rw [if_neg (not_not_intro c_16)] | rw [if_pos c_26] | rw [if_neg c_26] | rw [if_neg (not_not_intro c_26)]))
        obtain ⟨fc, hfc, hfe⟩ := hfa j (by omega)
        refine lv_iconst (v := nI 0) hx hb dX7_mayLook_49 (by decide) ?_
        refine lv_istore (lv' := [(4, .int (nI 0)), (3, .int (nI j)), (2, .int met), (0, .ref (adr 0)), (1, .int (nI x))]) hx hb dX7_mayLook_50 hl (by decide) rfl (fun ls hl => ?_)
        obtain ⟨k, hk⟩ : ∃ k, k = 0 := ⟨_, rfl⟩
        replace hl : lv_has ls 5 [(4, .int (nI k)), (2, .int (ml_fs S j met k)), (3, .int (nI j)), (0, .ref (adr 0)), (1, .int (nI x))] := by rw [hk]; exact lv_sub hl [0, 2, 1, 3, 4] rfl
        have hkf : k ≤ fc := by omega
        clear hk
        generalize hd : fc - k = d
        induction d generalizing k ls with
        | zero =>
          refine lv_iload hx hb dX7_mayLook_52 (lv_at hl 0 rfl) ?_
          refine lv_aload_n hx hb dX7_mayLook_54 rfl (lv_at hl 3 rfl) ?_
          refine rg_4 F hK hR dX7_mayLook_55 ?_
          refine lv_iload_n hx hb dX7_mayLook_58 rfl (lv_at hl 2 rfl) ?_
          refine ri_4 F hK hR (by omega) dX7_mayLook_59 ?_
          refine lv_eq (hfe) ?_
          refine nv_icmp_ge (by omega) (by omega) hx hb dX7_mayLook_60 (tgt := 85) (by decide) (fun c_60 => ?_) (fun c_60 => absurd c_60 (by omega))
          have hkk : k = fc := by omega
          have hQ2 : ml S x j (ml_fs S j met k) (ml_w S x j w) = wf := by rw [← hQ, ml_t c_16, hfe, nI_clamp (by omega), hkk]
          refine lv_iinc (v := (nI j) + (-1)) (lv' := [(3, .int ((nI j) + (-1))), (4, .int (nI k)), (2, .int (ml_fs S j met k)), (0, .ref (adr 0)), (1, .int (nI x))]) hx hb dX7_mayLook_85 hl (k := 2) rfl (rfl) (by decide) rfl (fun ls hl => ?_)
          refine lv_goto (tgt := 6) hx hb dX7_mayLook_88 (by decide) ?_
          exact ih _ _ _ _ _ hQ2 (by omega) (lv_sub hl [0, 2, 3, 4] rfl) hR
        | succ d ih2 =>
          refine lv_iload hx hb dX7_mayLook_52 (lv_at hl 0 rfl) ?_
          refine lv_aload_n hx hb dX7_mayLook_54 rfl (lv_at hl 3 rfl) ?_
          refine rg_4 F hK hR dX7_mayLook_55 ?_
          refine lv_iload_n hx hb dX7_mayLook_58 rfl (lv_at hl 2 rfl) ?_
          refine ri_4 F hK hR (by omega) dX7_mayLook_59 ?_
          refine lv_eq (hfe) ?_
          refine nv_icmp_ge (by omega) (by omega) hx hb dX7_mayLook_60 (tgt := 85) (by decide) (fun c_60 => absurd c_60 (by omega)) (fun c_60 => ?_)
          refine lv_iload_n hx hb dX7_mayLook_63 rfl (lv_at hl 1 rfl) ?_
          refine lv_iconst (v := nI 1) hx hb dX7_mayLook_64 (by decide) ?_
          refine lv_aload_n hx hb dX7_mayLook_65 rfl (lv_at hl 3 rfl) ?_
          refine rg_5 F hK hR dX7_mayLook_66 ?_
          refine lv_iconst (v := nI 3) hx hb dX7_mayLook_69 (by decide) ?_
          refine lv_iload_n hx hb dX7_mayLook_70 rfl (lv_at hl 2 rfl) ?_
          refine nv_imul hx hb dX7_mayLook_71 ?_
          refine lv_iload hx hb dX7_mayLook_72 (lv_at hl 0 rfl) ?_
          refine nv_iadd hx hb dX7_mayLook_74 ?_
          refine ri_5 F hK hR (by omega) dX7_mayLook_75 ?_
          refine lv_ishl hx hb dX7_mayLook_76 ?_
          refine lv_ior hx hb dX7_mayLook_77 ?_
          refine lv_istore_n (lv' := [(2, .int ((ml_fs S j met k) ||| ((nI 1) <<< ((S 5 (3 * j + k)) &&& 31)))), (4, .int (nI k)), (3, .int (nI j)), (0, .ref (adr 0)), (1, .int (nI x))]) hx hb dX7_mayLook_78 rfl hl (by decide) rfl (fun ls hl => ?_)
          refine lv_iinc (v := nI (k + 1)) (lv' := [(4, .int (nI (k + 1))), (2, .int ((ml_fs S j met k) ||| ((nI 1) <<< ((S 5 (3 * j + k)) &&& 31)))), (3, .int (nI j)), (0, .ref (adr 0)), (1, .int (nI x))]) hx hb dX7_mayLook_79 hl (k := 1) rfl (nI_add _ _) (by decide) rfl (fun ls hl => ?_)
          refine lv_goto (tgt := 52) hx hb dX7_mayLook_82 (by decide) ?_
          exact ih2 _ _ (lv_sub hl [0, 1, 2, 3, 4] rfl) (by omega) (by omega)
      · refine lv_aload_n hx hb dX7_mayLook_29 rfl (lv_at hl 2 rfl) ?_
        refine rg_2 F hK hR dX7_mayLook_30 ?_
        refine lv_iload_n hx hb dX7_mayLook_33 rfl (lv_at hl 0 rfl) ?_
        refine ri_2 F hK hR (by omega) dX7_mayLook_34 ?_
        refine lv_if_eq (tgt := 44) hx hb dX7_mayLook_35 (by decide) (fun c_35 => ?_) (fun c_35 => ?_)
        · refine lv_iconst (v := nI 0) hx hb dX7_mayLook_44 (by decide) ?_
          refine lv_ior hx hb dX7_mayLook_45 ?_
          refine rp_32 F hK hR dX7_mayLook_46 (fun H locs hR => ?_)
          replace hR : rB G A adr S (m2 X 32 0 (ml_w S x j w)) s.heap H locs := gw_B.to hR (by rw [m2_tw]; unfold ml_w b1; repeat (first | rw [if_pos c_7] | rw [if_neg c_7] | rw [if_neg (not_not_intro c_7)] | rw [if_pos c_16] | rw [if_neg c_16] | rw [if_neg (not_not_intro c_16)] | rw [if_pos c_26] | rw [if_neg c_26] | rw [if_neg (not_not_intro c_26)] | rw [if_pos c_35] | rw [if_neg c_35] | rw [if_neg (not_not_intro c_35)]))
          obtain ⟨fc, hfc, hfe⟩ := hfa j (by omega)
          refine lv_iconst (v := nI 0) hx hb dX7_mayLook_49 (by decide) ?_
          refine lv_istore (lv' := [(4, .int (nI 0)), (3, .int (nI j)), (2, .int met), (0, .ref (adr 0)), (1, .int (nI x))]) hx hb dX7_mayLook_50 hl (by decide) rfl (fun ls hl => ?_)
          obtain ⟨k, hk⟩ : ∃ k, k = 0 := ⟨_, rfl⟩
          replace hl : lv_has ls 5 [(4, .int (nI k)), (2, .int (ml_fs S j met k)), (3, .int (nI j)), (0, .ref (adr 0)), (1, .int (nI x))] := by rw [hk]; exact lv_sub hl [0, 2, 1, 3, 4] rfl
          have hkf : k ≤ fc := by omega
          clear hk
          generalize hd : fc - k = d
          induction d generalizing k ls with
          | zero =>
            refine lv_iload hx hb dX7_mayLook_52 (lv_at hl 0 rfl) ?_
            refine lv_aload_n hx hb dX7_mayLook_54 rfl (lv_at hl 3 rfl) ?_
            refine rg_4 F hK hR dX7_mayLook_55 ?_
            refine lv_iload_n hx hb dX7_mayLook_58 rfl (lv_at hl 2 rfl) ?_
            refine ri_4 F hK hR (by omega) dX7_mayLook_59 ?_
            refine lv_eq (hfe) ?_
            refine nv_icmp_ge (by omega) (by omega) hx hb dX7_mayLook_60 (tgt := 85) (by decide) (fun c_60 => ?_) (fun c_60 => absurd c_60 (by omega))
            have hkk : k = fc := by omega
            have hQ2 : ml S x j (ml_fs S j met k) (ml_w S x j w) = wf := by rw [← hQ, ml_t c_16, hfe, nI_clamp (by omega), hkk]
            refine lv_iinc (v := (nI j) + (-1)) (lv' := [(3, .int ((nI j) + (-1))), (4, .int (nI k)), (2, .int (ml_fs S j met k)), (0, .ref (adr 0)), (1, .int (nI x))]) hx hb dX7_mayLook_85 hl (k := 2) rfl (rfl) (by decide) rfl (fun ls hl => ?_)
            refine lv_goto (tgt := 6) hx hb dX7_mayLook_88 (by decide) ?_
            exact ih _ _ _ _ _ hQ2 (by omega) (lv_sub hl [0, 2, 3, 4] rfl) hR
          | succ d ih2 =>
            refine lv_iload hx hb dX7_mayLook_52 (lv_at hl 0 rfl) ?_
            refine lv_aload_n hx hb dX7_mayLook_54 rfl (lv_at hl 3 rfl) ?_
            refine rg_4 F hK hR dX7_mayLook_55 ?_
            refine lv_iload_n hx hb dX7_mayLook_58 rfl (lv_at hl 2 rfl) ?_
            refine ri_4 F hK hR (by omega) dX7_mayLook_59 ?_
            refine lv_eq (hfe) ?_
            refine nv_icmp_ge (by omega) (by omega) hx hb dX7_mayLook_60 (tgt := 85) (by decide) (fun c_60 => absurd c_60 (by omega)) (fun c_60 => ?_)
            refine lv_iload_n hx hb dX7_mayLook_63 rfl (lv_at hl 1 rfl) ?_
            refine lv_iconst (v := nI 1) hx hb dX7_mayLook_64 (by decide) ?_
            refine lv_aload_n hx hb dX7_mayLook_65 rfl (lv_at hl 3 rfl) ?_
            refine rg_5 F hK hR dX7_mayLook_66 ?_
            refine lv_iconst (v := nI 3) hx hb dX7_mayLook_69 (by decide) ?_
            refine lv_iload_n hx hb dX7_mayLook_70 rfl (lv_at hl 2 rfl) ?_
            refine nv_imul hx hb dX7_mayLook_71 ?_
            refine lv_iload hx hb dX7_mayLook_72 (lv_at hl 0 rfl) ?_
            refine nv_iadd hx hb dX7_mayLook_74 ?_
            refine ri_5 F hK hR (by omega) dX7_mayLook_75 ?_
            refine lv_ishl hx hb dX7_mayLook_76 ?_
            refine lv_ior hx hb dX7_mayLook_77 ?_
            refine lv_istore_n (lv' := [(2, .int ((ml_fs S j met k) ||| ((nI 1) <<< ((S 5 (3 * j + k)) &&& 31)))), (4, .int (nI k)), (3, .int (nI j)), (0, .ref (adr 0)), (1, .int (nI x))]) hx hb dX7_mayLook_78 rfl hl (by decide) rfl (fun ls hl => ?_)
            refine lv_iinc (v := nI (k + 1)) (lv' := [(4, .int (nI (k + 1))), (2, .int ((ml_fs S j met k) ||| ((nI 1) <<< ((S 5 (3 * j + k)) &&& 31)))), (3, .int (nI j)), (0, .ref (adr 0)), (1, .int (nI x))]) hx hb dX7_mayLook_79 hl (k := 1) rfl (nI_add _ _) (by decide) rfl (fun ls hl => ?_)
            refine lv_goto (tgt := 52) hx hb dX7_mayLook_82 (by decide) ?_
            exact ih2 _ _ (lv_sub hl [0, 1, 2, 3, 4] rfl) (by omega) (by omega)
        · refine lv_iconst (v := nI 1) hx hb dX7_mayLook_38 (by decide) ?_
          refine lv_iload_n hx hb dX7_mayLook_39 rfl (lv_at hl 0 rfl) ?_
          refine lv_ishl hx hb dX7_mayLook_40 ?_
          refine lv_goto (tgt := 45) hx hb dX7_mayLook_41 (by decide) ?_
          refine lv_ior hx hb dX7_mayLook_45 ?_
          refine rp_32 F hK hR dX7_mayLook_46 (fun H locs hR => ?_)
          replace hR : rB G A adr S (m2 X 32 0 (ml_w S x j w)) s.heap H locs := gw_B.to hR (by rw [m2_tw]; unfold ml_w b1; repeat (first | rw [if_pos c_7] | rw [if_neg c_7] | rw [if_neg (not_not_intro c_7)] | rw [if_pos c_16] | rw [if_neg c_16] | rw [if_neg (not_not_intro c_16)] | rw [if_pos c_26] | rw [if_neg c_26] | rw [if_neg (not_not_intro c_26)] | rw [if_pos c_35] | rw [if_neg c_35] | rw [if_neg (not_not_intro c_35)]))
          obtain ⟨fc, hfc, hfe⟩ := hfa j (by omega)
          refine lv_iconst (v := nI 0) hx hb dX7_mayLook_49 (by decide) ?_
          refine lv_istore (lv' := [(4, .int (nI 0)), (3, .int (nI j)), (2, .int met), (0, .ref (adr 0)), (1, .int (nI x))]) hx hb dX7_mayLook_50 hl (by decide) rfl (fun ls hl => ?_)
          obtain ⟨k, hk⟩ : ∃ k, k = 0 := ⟨_, rfl⟩
          replace hl : lv_has ls 5 [(4, .int (nI k)), (2, .int (ml_fs S j met k)), (3, .int (nI j)), (0, .ref (adr 0)), (1, .int (nI x))] := by rw [hk]; exact lv_sub hl [0, 2, 1, 3, 4] rfl
          have hkf : k ≤ fc := by omega
          clear hk
          generalize hd : fc - k = d
          induction d generalizing k ls with
          | zero =>
            refine lv_iload hx hb dX7_mayLook_52 (lv_at hl 0 rfl) ?_
            refine lv_aload_n hx hb dX7_mayLook_54 rfl (lv_at hl 3 rfl) ?_
            refine rg_4 F hK hR dX7_mayLook_55 ?_
            refine lv_iload_n hx hb dX7_mayLook_58 rfl (lv_at hl 2 rfl) ?_
            refine ri_4 F hK hR (by omega) dX7_mayLook_59 ?_
            refine lv_eq (hfe) ?_
            refine nv_icmp_ge (by omega) (by omega) hx hb dX7_mayLook_60 (tgt := 85) (by decide) (fun c_60 => ?_) (fun c_60 => absurd c_60 (by omega))
            have hkk : k = fc := by omega
            have hQ2 : ml S x j (ml_fs S j met k) (ml_w S x j w) = wf := by rw [← hQ, ml_t c_16, hfe, nI_clamp (by omega), hkk]
            refine lv_iinc (v := (nI j) + (-1)) (lv' := [(3, .int ((nI j) + (-1))), (4, .int (nI k)), (2, .int (ml_fs S j met k)), (0, .ref (adr 0)), (1, .int (nI x))]) hx hb dX7_mayLook_85 hl (k := 2) rfl (rfl) (by decide) rfl (fun ls hl => ?_)
            refine lv_goto (tgt := 6) hx hb dX7_mayLook_88 (by decide) ?_
            exact ih _ _ _ _ _ hQ2 (by omega) (lv_sub hl [0, 2, 3, 4] rfl) hR
          | succ d ih2 =>
            refine lv_iload hx hb dX7_mayLook_52 (lv_at hl 0 rfl) ?_
            refine lv_aload_n hx hb dX7_mayLook_54 rfl (lv_at hl 3 rfl) ?_
            refine rg_4 F hK hR dX7_mayLook_55 ?_
            refine lv_iload_n hx hb dX7_mayLook_58 rfl (lv_at hl 2 rfl) ?_
            refine ri_4 F hK hR (by omega) dX7_mayLook_59 ?_
            refine lv_eq (hfe) ?_
            refine nv_icmp_ge (by omega) (by omega) hx hb dX7_mayLook_60 (tgt := 85) (by decide) (fun c_60 => absurd c_60 (by omega)) (fun c_60 => ?_)
            refine lv_iload_n hx hb dX7_mayLook_63 rfl (lv_at hl 1 rfl) ?_
            refine lv_iconst (v := nI 1) hx hb dX7_mayLook_64 (by decide) ?_
            refine lv_aload_n hx hb dX7_mayLook_65 rfl (lv_at hl 3 rfl) ?_
            refine rg_5 F hK hR dX7_mayLook_66 ?_
            refine lv_iconst (v := nI 3) hx hb dX7_mayLook_69 (by decide) ?_
            refine lv_iload_n hx hb dX7_mayLook_70 rfl (lv_at hl 2 rfl) ?_
            refine nv_imul hx hb dX7_mayLook_71 ?_
            refine lv_iload hx hb dX7_mayLook_72 (lv_at hl 0 rfl) ?_
            refine nv_iadd hx hb dX7_mayLook_74 ?_
            refine ri_5 F hK hR (by omega) dX7_mayLook_75 ?_
            refine lv_ishl hx hb dX7_mayLook_76 ?_
            refine lv_ior hx hb dX7_mayLook_77 ?_
            refine lv_istore_n (lv' := [(2, .int ((ml_fs S j met k) ||| ((nI 1) <<< ((S 5 (3 * j + k)) &&& 31)))), (4, .int (nI k)), (3, .int (nI j)), (0, .ref (adr 0)), (1, .int (nI x))]) hx hb dX7_mayLook_78 rfl hl (by decide) rfl (fun ls hl => ?_)
            refine lv_iinc (v := nI (k + 1)) (lv' := [(4, .int (nI (k + 1))), (2, .int ((ml_fs S j met k) ||| ((nI 1) <<< ((S 5 (3 * j + k)) &&& 31)))), (3, .int (nI j)), (0, .ref (adr 0)), (1, .int (nI x))]) hx hb dX7_mayLook_79 hl (k := 1) rfl (nI_add _ _) (by decide) rfl (fun ls hl => ?_)
            refine lv_goto (tgt := 52) hx hb dX7_mayLook_82 (by decide) ?_
            exact ih2 _ _ (lv_sub hl [0, 1, 2, 3, 4] rfl) (by omega) (by omega)
noncomputable def mw_w (S : Nat → Nat → Int32) (x : Nat) (w : Int32) : Int32 := if S 1 x = 0 then ml S x (x + 1) (b1 x) ((w ||| b1 x) ||| (if S 3 x = -1 then nI 0 else nI 1 <<< (S 3 x &&& 31))) else w ||| b1 x
noncomputable def mw_X (S X : Nat → Nat → Int32) (x : Nat) : Nat → Nat → Int32 := m2 (m2 X 33 (4 * x) (nI 1)) 32 0 (mw_w S x (X 32 0))
set_option maxHeartbeats 4000000 in
set_option maxRecDepth 100000 in
/-- mayWant(x) -/
theorem c_X7_mayWant (l : Launch) (G : gw_G) (A : Nat → Prop) (adr : Nat → Nat) (S X : Nat → Nat → Int32) (x : Nat) (hxx : x < 12) (hfa : ∀ x, x < 12 → ∃ fc, fc ≤ 3 ∧ S 4 x = nI fc) : gm l yX7_mayWant cX7_mayWant 2 none (rmL 1) 0 0 A [.ref (adr 0), .int (nI x)] (gW G A adr (rcel G adr S X)) (gW G A adr (rcel G adr S (mw_X S X x))) none := by
  refine gm_of (own := RX7) (by decide) rfl (Nat.le_of_ble_eq_true rfl) ?_
  intro p e s m below meth c ls F hml hr hlk hnm hK hR hl
  have hx := F.1
  have hb := F.2.1
  replace hl : lv_has ls 2 [(0, .ref (adr 0)), (1, .int (nI x))] := hl
  refine lv_aload_n hx hb dX7_mayWant_0 rfl (lv_at hl 0 rfl) ?_
  refine lv_dup hx hb dX7_mayWant_1 rfl ?_
  refine rg_32 F hK hR dX7_mayWant_2 ?_
  refine lv_iconst (v := nI 1) hx hb dX7_mayWant_5 (by decide) ?_
  refine lv_iload_n hx hb dX7_mayWant_6 rfl (lv_at hl 1 rfl) ?_
  refine lv_ishl hx hb dX7_mayWant_7 ?_
  refine lv_ior hx hb dX7_mayWant_8 ?_
  refine rp_32 F hK hR dX7_mayWant_9 (fun H locs hR => ?_)
  refine lv_aload_n hx hb dX7_mayWant_12 rfl (lv_at hl 0 rfl) ?_
  refine rg_33 F hK hR dX7_mayWant_13 ?_
  refine lv_iconst (v := nI 4) hx hb dX7_mayWant_16 (by decide) ?_
  refine lv_iload_n hx hb dX7_mayWant_17 rfl (lv_at hl 1 rfl) ?_
  refine nv_imul hx hb dX7_mayWant_18 ?_
  refine lv_iconst (v := nI 1) hx hb dX7_mayWant_19 (by decide) ?_
  refine rs_33 F hK hR (by omega) (by decide) dX7_mayWant_20 (fun H locs hR => ?_)
  refine lv_aload_n hx hb dX7_mayWant_21 rfl (lv_at hl 0 rfl) ?_
  refine rg_1 F hK hR dX7_mayWant_22 ?_
  refine lv_iload_n hx hb dX7_mayWant_25 rfl (lv_at hl 1 rfl) ?_
  refine ri_1 F hK hR (by omega) dX7_mayWant_26 ?_
  refine lv_if_ne (tgt := 66) hx hb dX7_mayWant_27 (by decide) (fun c_27 => ?_) (fun c_27 => ?_)
  · exact gr_v F hr hlk hK hR dX7_mayWant_66 (by unfold mw_X mw_w b1; rw [if_neg c_27, m2_cm (by decide)])
  · refine lv_aload_n hx hb dX7_mayWant_30 rfl (lv_at hl 0 rfl) ?_
    refine lv_dup hx hb dX7_mayWant_31 rfl ?_
    refine rg_32 F hK hR dX7_mayWant_32 ?_
    refine lv_eq ((m2_nk (by decide)).trans (m2_at)) ?_
    refine lv_aload_n hx hb dX7_mayWant_35 rfl (lv_at hl 0 rfl) ?_
    refine rg_3 F hK hR dX7_mayWant_36 ?_
    refine lv_iload_n hx hb dX7_mayWant_39 rfl (lv_at hl 1 rfl) ?_
    refine ri_3 F hK hR (by omega) dX7_mayWant_40 ?_
    refine lv_iconst (v := (-1)) hx hb dX7_mayWant_41 (by decide) ?_
    refine lv_icmp_ne (tgt := 49) hx hb dX7_mayWant_42 (by decide) (fun c_42 => ?_) (fun c_42 => ?_)
    · refine lv_iconst (v := nI 1) hx hb dX7_mayWant_49 (by decide) ?_
      refine lv_aload_n hx hb dX7_mayWant_50 rfl (lv_at hl 0 rfl) ?_
      refine rg_3 F hK hR dX7_mayWant_51 ?_
      refine lv_iload_n hx hb dX7_mayWant_54 rfl (lv_at hl 1 rfl) ?_
      refine ri_3 F hK hR (by omega) dX7_mayWant_55 ?_
      refine lv_ishl hx hb dX7_mayWant_56 ?_
      refine lv_ior hx hb dX7_mayWant_57 ?_
      refine rp_32 F hK hR dX7_mayWant_58 (fun H locs hR => ?_)
      refine lv_aload_n hx hb dX7_mayWant_61 rfl (lv_at hl 0 rfl) ?_
      refine lv_iload_n hx hb dX7_mayWant_62 rfl (lv_at hl 1 rfl) ?_
      refine gcVv (As := [.int (nI x)]) F hK hR hml cv_X7_185 (o := 0) rfl rfl rfl (c_X7_mayLook l G A adr S (m2 (m2 (m2 X 32 0 ((X 32 0) ||| ((nI 1) <<< ((nI x) &&& 31)))) 33 (4 * x) (nI 1)) 32 0 (((X 32 0) ||| ((nI 1) <<< ((nI x) &&& 31))) ||| ((nI 1) <<< ((S 3 x) &&& 31)))) x (((X 32 0) ||| ((nI 1) <<< ((nI x) &&& 31))) ||| ((nI 1) <<< ((S 3 x) &&& 31))) (by omega) (m2_at) hfa) ⟨rfl, rfl⟩ ⟨Nat.le_of_ble_eq_true rfl, Nat.le_of_ble_eq_true rfl⟩ rfl rfl hl.1 (Nat.le_of_ble_eq_true rfl) dX7_mayWant_63 ⟨Nat.zero_le _, Nat.zero_le _⟩ (fun H locs hR => ?_)
      exact gr_v F hr hlk hK hR dX7_mayWant_66 (by unfold mw_X mw_w; rw [if_pos c_27, if_neg c_42, m2_tw, m2_cm (k := 33) (by decide), m2_tw, m2_cm (by decide)]; rfl)
    · refine lv_iconst (v := nI 0) hx hb dX7_mayWant_45 (by decide) ?_
      refine lv_goto (tgt := 57) hx hb dX7_mayWant_46 (by decide) ?_
      refine lv_ior hx hb dX7_mayWant_57 ?_
      refine rp_32 F hK hR dX7_mayWant_58 (fun H locs hR => ?_)
      refine lv_aload_n hx hb dX7_mayWant_61 rfl (lv_at hl 0 rfl) ?_
      refine lv_iload_n hx hb dX7_mayWant_62 rfl (lv_at hl 1 rfl) ?_
      refine gcVv (As := [.int (nI x)]) F hK hR hml cv_X7_185 (o := 0) rfl rfl rfl (c_X7_mayLook l G A adr S (m2 (m2 (m2 X 32 0 ((X 32 0) ||| ((nI 1) <<< ((nI x) &&& 31)))) 33 (4 * x) (nI 1)) 32 0 (((X 32 0) ||| ((nI 1) <<< ((nI x) &&& 31))) ||| (nI 0))) x (((X 32 0) ||| ((nI 1) <<< ((nI x) &&& 31))) ||| (nI 0)) (by omega) (m2_at) hfa) ⟨rfl, rfl⟩ ⟨Nat.le_of_ble_eq_true rfl, Nat.le_of_ble_eq_true rfl⟩ rfl rfl hl.1 (Nat.le_of_ble_eq_true rfl) dX7_mayWant_63 ⟨Nat.zero_le _, Nat.zero_le _⟩ (fun H locs hR => ?_)
      exact gr_v F hr hlk hK hR dX7_mayWant_66 (by unfold mw_X mw_w; rw [if_pos c_27, if_pos c_42, m2_tw, m2_cm (k := 33) (by decide), m2_tw, m2_cm (by decide)]; rfl)
/-- one act of the method mm, at i -/
def ma_1 (S X : Nat → Nat → Int32) (mm i : Nat) : Nat → Nat → Int32 :=
  if (S 11 (40 * mm + 4 * i)).toNatClampNeg = 7 then m2 (m2 X 32 0 (X 32 0 ||| (nI 1 <<< (S 11 (40 * mm + 4 * i + 1) &&& 31)))) 33 (4 * (S 11 (40 * mm + 4 * i + 1)).toNatClampNeg + (S 11 (40 * mm + 4 * i + 2)).toNatClampNeg) (nI 1)
  else if (S 11 (40 * mm + 4 * i)).toNatClampNeg = 8 then m2 X 32 0 (X 32 0 ||| (nI 1 <<< (S 11 (40 * mm + 4 * i + 1) &&& 31)))
  else if 1 ≤ (S 11 (40 * mm + 4 * i)).toNatClampNeg ∧ (S 11 (40 * mm + 4 * i)).toNatClampNeg ≤ 3 ∧ S 7 (4 * (S 11 (40 * mm + 4 * i + 2)).toNatClampNeg + (S 11 (40 * mm + 4 * i + 3)).toNatClampNeg) = 0 then m2 X 32 0 (X 32 0 ||| (nI 1 <<< (S 11 (40 * mm + 4 * i + 2) &&& 31)))
  else X
def ma_X (S X : Nat → Nat → Int32) (mm : Nat) : Nat → Nat → Nat → Int32
  | 0 => X
  | i + 1 => ma_1 S (ma_X S X mm i) mm i
/-- the acts of a method that are there are such as may be -/
def okA2 (S : Nat → Nat → Int32) (mm i so : Nat) : Prop := (1 ≤ so → so ≤ 3 → ∃ z g, z < 12 ∧ g < 4 ∧ S 11 (40 * mm + 4 * i + 2) = nI z ∧ S 11 (40 * mm + 4 * i + 3) = nI g) ∧ (so = 7 → ∃ z g, z < 12 ∧ g < 4 ∧ S 11 (40 * mm + 4 * i + 1) = nI z ∧ S 11 (40 * mm + 4 * i + 2) = nI g)
def okA1 (S : Nat → Nat → Int32) (mm ac : Nat) : Prop := ∀ i, i < ac → ∃ so, so ≤ 12 ∧ S 11 (40 * mm + 4 * i) = nI so ∧ okA2 S mm i so
def okA (S : Nat → Nat → Int32) : Prop := ∀ mm, mm < 48 → ∃ ac, ac ≤ 10 ∧ S 10 mm = nI ac ∧ okA1 S mm ac
set_option maxHeartbeats 4000000 in
set_option maxRecDepth 100000 in
/-- mayActs(m) -/
theorem c_X7_mayActs (l : Launch) (G : gw_G) (A : Nat → Prop) (adr : Nat → Nat) (S X : Nat → Nat → Int32) (mm : Nat) (hmm : mm < 48) (hok : okA S) : gm l yX7_mayActs cX7_mayActs 7 none (rmL 0) 0 0 A [.ref (adr 0), .int (nI mm)] (gW G A adr (rcel G adr S X)) (gW G A adr (rcel G adr S (ma_X S X mm (S 10 mm).toNatClampNeg))) none := by
  refine gm_of (own := RX7) (by decide) rfl (Nat.le_of_ble_eq_true rfl) ?_
  intro p e s m below meth c ls F hml hr hlk hnm hK hR hl
  have hx := F.1
  have hb := F.2.1
  replace hl : lv_has ls 7 [(0, .ref (adr 0)), (1, .int (nI mm))] := hl
  refine lv_iconst (v := nI 0) hx hb dX7_mayActs_0 (by decide) ?_
  refine lv_istore_n (lv' := [(2, .int (nI 0)), (0, .ref (adr 0)), (1, .int (nI mm))]) hx hb dX7_mayActs_1 rfl hl (by decide) rfl (fun ls hl => ?_)
  obtain ⟨ac, hac, hae, hal⟩ := hok mm hmm
  obtain ⟨i, hi⟩ : ∃ i, i = 0 := ⟨_, rfl⟩
  refine lp_gen hR (fun H locs hR => ?_)
  replace hl : lv_has ls 7 [(2, .int (nI i)), (0, .ref (adr 0)), (1, .int (nI mm))] := by rw [hi]; exact lv_sub hl [0, 1, 2] rfl
  have hif : i ≤ ac := by omega
  replace hR : rB G A adr S (ma_X S X mm i) s.heap H locs := by rw [hi]; exact hR
  clear hi
  generalize hd : ac - i = d
  induction d generalizing i ls H locs with
  | zero =>
    refine lv_iload_n hx hb dX7_mayActs_2 rfl (lv_at hl 0 rfl) ?_
    refine lv_aload_n hx hb dX7_mayActs_3 rfl (lv_at hl 1 rfl) ?_
    refine rg_10 F hK hR dX7_mayActs_4 ?_
    refine lv_iload_n hx hb dX7_mayActs_7 rfl (lv_at hl 2 rfl) ?_
    refine ri_10 F hK hR (by omega) dX7_mayActs_8 ?_
    refine lv_eq (hae) ?_
    refine nv_icmp_ge (by omega) (by omega) hx hb dX7_mayActs_9 (tgt := 160) (by decide) (fun c_9 => ?_) (fun c_9 => absurd c_9 (by omega))
    exact gr_v F hr hlk hK hR dX7_mayActs_160 (by rw [hae, nI_clamp (by omega), sub0 hd hif])
  | succ d ih =>
    obtain ⟨so, hso12, hso, hq⟩ := hal i (by omega)
    refine lv_iload_n hx hb dX7_mayActs_2 rfl (lv_at hl 0 rfl) ?_
    refine lv_aload_n hx hb dX7_mayActs_3 rfl (lv_at hl 1 rfl) ?_
    refine rg_10 F hK hR dX7_mayActs_4 ?_
    refine lv_iload_n hx hb dX7_mayActs_7 rfl (lv_at hl 2 rfl) ?_
    refine ri_10 F hK hR (by omega) dX7_mayActs_8 ?_
    refine lv_eq (hae) ?_
    refine nv_icmp_ge (by omega) (by omega) hx hb dX7_mayActs_9 (tgt := 160) (by decide) (fun c_9 => absurd c_9 (by omega)) (fun c_9 => ?_)
    refine lv_bipush (v := nI 40) hx hb dX7_mayActs_12 (by decide) ?_
    refine lv_iload_n hx hb dX7_mayActs_14 rfl (lv_at hl 2 rfl) ?_
    refine nv_imul hx hb dX7_mayActs_15 ?_
    refine lv_iconst (v := nI 4) hx hb dX7_mayActs_16 (by decide) ?_
    refine lv_iload_n hx hb dX7_mayActs_17 rfl (lv_at hl 0 rfl) ?_
    refine nv_imul hx hb dX7_mayActs_18 ?_
    refine nv_iadd hx hb dX7_mayActs_19 ?_
    refine lv_istore_n (lv' := [(3, .int (nI (40 * mm + 4 * i))), (2, .int (nI i)), (0, .ref (adr 0)), (1, .int (nI mm))]) hx hb dX7_mayActs_20 rfl hl (by decide) rfl (fun ls hl => ?_)
    refine lv_aload_n hx hb dX7_mayActs_21 rfl (lv_at hl 2 rfl) ?_
    refine rg_11 F hK hR dX7_mayActs_22 ?_
    refine lv_iload_n hx hb dX7_mayActs_25 rfl (lv_at hl 0 rfl) ?_
    refine ri_11 F hK hR (by omega) dX7_mayActs_26 ?_
    refine lv_eq (hso) ?_
    refine lv_istore (lv' := [(4, .int (nI so)), (3, .int (nI (40 * mm + 4 * i))), (2, .int (nI i)), (0, .ref (adr 0)), (1, .int (nI mm))]) hx hb dX7_mayActs_27 hl (by decide) rfl (fun ls hl => ?_)
    refine lv_aload_n hx hb dX7_mayActs_29 rfl (lv_at hl 3 rfl) ?_
    refine rg_11 F hK hR dX7_mayActs_30 ?_
    refine lv_iload_n hx hb dX7_mayActs_33 rfl (lv_at hl 1 rfl) ?_
    refine lv_iconst (v := nI 1) hx hb dX7_mayActs_34 (by decide) ?_
    refine nv_iadd hx hb dX7_mayActs_35 ?_
    refine ri_11 F hK hR (by omega) dX7_mayActs_36 ?_
    refine lv_istore (lv' := [(5, .int (S 11 (40 * mm + 4 * i + 1))), (4, .int (nI so)), (3, .int (nI (40 * mm + 4 * i))), (2, .int (nI i)), (0, .ref (adr 0)), (1, .int (nI mm))]) hx hb dX7_mayActs_37 hl (by decide) rfl (fun ls hl => ?_)
    refine lv_aload_n hx hb dX7_mayActs_39 rfl (lv_at hl 4 rfl) ?_
    refine rg_11 F hK hR dX7_mayActs_40 ?_
    refine lv_iload_n hx hb dX7_mayActs_43 rfl (lv_at hl 2 rfl) ?_
    refine lv_iconst (v := nI 2) hx hb dX7_mayActs_44 (by decide) ?_
    refine nv_iadd hx hb dX7_mayActs_45 ?_
    refine ri_11 F hK hR (by omega) dX7_mayActs_46 ?_
    refine lv_istore (lv' := [(6, .int (S 11 (40 * mm + 4 * i + 2))), (5, .int (S 11 (40 * mm + 4 * i + 1))), (4, .int (nI so)), (3, .int (nI (40 * mm + 4 * i))), (2, .int (nI i)), (0, .ref (adr 0)), (1, .int (nI mm))]) hx hb dX7_mayActs_47 hl (by decide) rfl (fun ls hl => ?_)
    refine lv_iload hx hb dX7_mayActs_49 (lv_at hl 2 rfl) ?_
    refine lv_iconst (v := nI 1) hx hb dX7_mayActs_51 (by decide) ?_
    refine nv_icmp_lt (by omega) (by omega) hx hb dX7_mayActs_52 (tgt := 98) (by decide) (fun c_52 => ?_) (fun c_52 => ?_)
    · have n_52 : ¬ (1 ≤ so) := by omega
      refine lv_iload hx hb dX7_mayActs_98 (lv_at hl 2 rfl) ?_
      refine lv_bipush (v := nI 7) hx hb dX7_mayActs_100 (by decide) ?_
      refine nv_icmp_ne (by omega) (by omega) hx hb dX7_mayActs_102 (tgt := 134) (by decide) (fun c_102 => ?_) (fun c_102 => ?_)
      · refine lv_iload hx hb dX7_mayActs_134 (lv_at hl 2 rfl) ?_
        refine lv_bipush (v := nI 8) hx hb dX7_mayActs_136 (by decide) ?_
        refine nv_icmp_ne (by omega) (by omega) hx hb dX7_mayActs_138 (tgt := 154) (by decide) (fun c_138 => ?_) (fun c_138 => ?_)
        · refine lv_iinc (v := nI (i + 1)) (lv' := [(2, .int (nI (i + 1))), (6, .int (S 11 (40 * mm + 4 * i + 2))), (5, .int (S 11 (40 * mm + 4 * i + 1))), (4, .int (nI so)), (3, .int (nI (40 * mm + 4 * i))), (0, .ref (adr 0)), (1, .int (nI mm))]) hx hb dX7_mayActs_154 hl (k := 4) rfl (nI_add _ _) (by decide) rfl (fun ls hl => ?_)
          refine lv_goto (tgt := 2) hx hb dX7_mayActs_157 (by decide) ?_
          replace hR : rB G A adr S (ma_X S X mm (i + 1)) s.heap H locs := gw_B.to hR (congrArg (rcel G adr S) (by rw [ma_X]; unfold ma_1; rw [hso, nI_clamp (by omega)]; rw [if_neg (by omega), if_neg (by omega), if_neg (fun q => by omega)]))
          exact ih _ _ _ _ (lv_sub hl [0, 5, 6] rfl) (by omega) hR (by omega)
        · refine lv_aload_n hx hb dX7_mayActs_141 rfl (lv_at hl 5 rfl) ?_
          refine lv_dup hx hb dX7_mayActs_142 rfl ?_
          refine rg_32 F hK hR dX7_mayActs_143 ?_
          refine lv_iconst (v := nI 1) hx hb dX7_mayActs_146 (by decide) ?_
          refine lv_iload hx hb dX7_mayActs_147 (lv_at hl 1 rfl) ?_
          refine lv_ishl hx hb dX7_mayActs_149 ?_
          refine lv_ior hx hb dX7_mayActs_150 ?_
          refine rp_32 F hK hR dX7_mayActs_151 (fun H locs hR => ?_)
          refine lv_iinc (v := nI (i + 1)) (lv' := [(2, .int (nI (i + 1))), (6, .int (S 11 (40 * mm + 4 * i + 2))), (5, .int (S 11 (40 * mm + 4 * i + 1))), (4, .int (nI so)), (3, .int (nI (40 * mm + 4 * i))), (0, .ref (adr 0)), (1, .int (nI mm))]) hx hb dX7_mayActs_154 hl (k := 4) rfl (nI_add _ _) (by decide) rfl (fun ls hl => ?_)
          refine lv_goto (tgt := 2) hx hb dX7_mayActs_157 (by decide) ?_
          replace hR : rB G A adr S (ma_X S X mm (i + 1)) s.heap H locs := gw_B.to hR (congrArg (rcel G adr S) (by rw [ma_X]; unfold ma_1; rw [hso, nI_clamp (by omega)]; rw [if_neg (by omega), if_pos c_138]))
          exact ih _ _ _ _ (lv_sub hl [0, 5, 6] rfl) (by omega) hR (by omega)
      · obtain ⟨z, g, hz, hg, hza, hgb⟩ := hq.2 (by omega)
        replace hl : lv_has ls 7 [(6, .int (nI g)), (5, .int (nI z)), (4, .int (nI so)), (3, .int (nI (40 * mm + 4 * i))), (2, .int (nI i)), (0, .ref (adr 0)), (1, .int (nI mm))] := by rw [← hza, ← hgb]; exact hl
        refine lv_aload_n hx hb dX7_mayActs_105 rfl (lv_at hl 5 rfl) ?_
        refine lv_dup hx hb dX7_mayActs_106 rfl ?_
        refine rg_32 F hK hR dX7_mayActs_107 ?_
        refine lv_iconst (v := nI 1) hx hb dX7_mayActs_110 (by decide) ?_
        refine lv_iload hx hb dX7_mayActs_111 (lv_at hl 1 rfl) ?_
        refine lv_ishl hx hb dX7_mayActs_113 ?_
        refine lv_ior hx hb dX7_mayActs_114 ?_
        refine rp_32 F hK hR dX7_mayActs_115 (fun H locs hR => ?_)
        refine lv_aload_n hx hb dX7_mayActs_118 rfl (lv_at hl 5 rfl) ?_
        refine rg_33 F hK hR dX7_mayActs_119 ?_
        refine lv_iconst (v := nI 4) hx hb dX7_mayActs_122 (by decide) ?_
        refine lv_iload hx hb dX7_mayActs_123 (lv_at hl 1 rfl) ?_
        refine nv_imul hx hb dX7_mayActs_125 ?_
        refine lv_iload hx hb dX7_mayActs_126 (lv_at hl 0 rfl) ?_
        refine nv_iadd hx hb dX7_mayActs_128 ?_
        refine lv_iconst (v := nI 1) hx hb dX7_mayActs_129 (by decide) ?_
        refine rs_33 F hK hR (by omega) (by decide) dX7_mayActs_130 (fun H locs hR => ?_)
        refine lv_goto (tgt := 154) hx hb dX7_mayActs_131 (by decide) ?_
        refine lv_iinc (v := nI (i + 1)) (lv' := [(2, .int (nI (i + 1))), (6, .int (nI g)), (5, .int (nI z)), (4, .int (nI so)), (3, .int (nI (40 * mm + 4 * i))), (0, .ref (adr 0)), (1, .int (nI mm))]) hx hb dX7_mayActs_154 hl (k := 4) rfl (nI_add _ _) (by decide) rfl (fun ls hl => ?_)
        refine lv_goto (tgt := 2) hx hb dX7_mayActs_157 (by decide) ?_
        replace hR : rB G A adr S (ma_X S X mm (i + 1)) s.heap H locs := gw_B.to hR (congrArg (rcel G adr S) (by rw [ma_X]; unfold ma_1; rw [hso, nI_clamp (by omega)]; rw [if_pos c_102, hza, hgb, nI_clamp (n := z) (by omega), nI_clamp (n := g) (by omega)]))
        exact ih _ _ _ _ (lv_sub hl [0, 5, 6] rfl) (by omega) hR (by omega)
    · have n_52 : ¬ (so < 1) := by omega
      refine lv_iload hx hb dX7_mayActs_55 (lv_at hl 2 rfl) ?_
      refine lv_iconst (v := nI 3) hx hb dX7_mayActs_57 (by decide) ?_
      refine nv_icmp_gt (by omega) (by omega) hx hb dX7_mayActs_58 (tgt := 98) (by decide) (fun c_58 => ?_) (fun c_58 => ?_)
      · have n_58 : ¬ (so ≤ 3) := by omega
        refine lv_iload hx hb dX7_mayActs_98 (lv_at hl 2 rfl) ?_
        refine lv_bipush (v := nI 7) hx hb dX7_mayActs_100 (by decide) ?_
        refine nv_icmp_ne (by omega) (by omega) hx hb dX7_mayActs_102 (tgt := 134) (by decide) (fun c_102 => ?_) (fun c_102 => ?_)
        · refine lv_iload hx hb dX7_mayActs_134 (lv_at hl 2 rfl) ?_
          refine lv_bipush (v := nI 8) hx hb dX7_mayActs_136 (by decide) ?_
          refine nv_icmp_ne (by omega) (by omega) hx hb dX7_mayActs_138 (tgt := 154) (by decide) (fun c_138 => ?_) (fun c_138 => ?_)
          · refine lv_iinc (v := nI (i + 1)) (lv' := [(2, .int (nI (i + 1))), (6, .int (S 11 (40 * mm + 4 * i + 2))), (5, .int (S 11 (40 * mm + 4 * i + 1))), (4, .int (nI so)), (3, .int (nI (40 * mm + 4 * i))), (0, .ref (adr 0)), (1, .int (nI mm))]) hx hb dX7_mayActs_154 hl (k := 4) rfl (nI_add _ _) (by decide) rfl (fun ls hl => ?_)
            refine lv_goto (tgt := 2) hx hb dX7_mayActs_157 (by decide) ?_
            replace hR : rB G A adr S (ma_X S X mm (i + 1)) s.heap H locs := gw_B.to hR (congrArg (rcel G adr S) (by rw [ma_X]; unfold ma_1; rw [hso, nI_clamp (by omega)]; rw [if_neg (by omega), if_neg (by omega), if_neg (fun q => by omega)]))
            exact ih _ _ _ _ (lv_sub hl [0, 5, 6] rfl) (by omega) hR (by omega)
          · refine lv_aload_n hx hb dX7_mayActs_141 rfl (lv_at hl 5 rfl) ?_
            refine lv_dup hx hb dX7_mayActs_142 rfl ?_
            refine rg_32 F hK hR dX7_mayActs_143 ?_
            refine lv_iconst (v := nI 1) hx hb dX7_mayActs_146 (by decide) ?_
            refine lv_iload hx hb dX7_mayActs_147 (lv_at hl 1 rfl) ?_
            refine lv_ishl hx hb dX7_mayActs_149 ?_
            refine lv_ior hx hb dX7_mayActs_150 ?_
            refine rp_32 F hK hR dX7_mayActs_151 (fun H locs hR => ?_)
            refine lv_iinc (v := nI (i + 1)) (lv' := [(2, .int (nI (i + 1))), (6, .int (S 11 (40 * mm + 4 * i + 2))), (5, .int (S 11 (40 * mm + 4 * i + 1))), (4, .int (nI so)), (3, .int (nI (40 * mm + 4 * i))), (0, .ref (adr 0)), (1, .int (nI mm))]) hx hb dX7_mayActs_154 hl (k := 4) rfl (nI_add _ _) (by decide) rfl (fun ls hl => ?_)
            refine lv_goto (tgt := 2) hx hb dX7_mayActs_157 (by decide) ?_
            replace hR : rB G A adr S (ma_X S X mm (i + 1)) s.heap H locs := gw_B.to hR (congrArg (rcel G adr S) (by rw [ma_X]; unfold ma_1; rw [hso, nI_clamp (by omega)]; rw [if_neg (by omega), if_pos c_138]))
            exact ih _ _ _ _ (lv_sub hl [0, 5, 6] rfl) (by omega) hR (by omega)
        · obtain ⟨z, g, hz, hg, hza, hgb⟩ := hq.2 (by omega)
          replace hl : lv_has ls 7 [(6, .int (nI g)), (5, .int (nI z)), (4, .int (nI so)), (3, .int (nI (40 * mm + 4 * i))), (2, .int (nI i)), (0, .ref (adr 0)), (1, .int (nI mm))] := by rw [← hza, ← hgb]; exact hl
          refine lv_aload_n hx hb dX7_mayActs_105 rfl (lv_at hl 5 rfl) ?_
          refine lv_dup hx hb dX7_mayActs_106 rfl ?_
          refine rg_32 F hK hR dX7_mayActs_107 ?_
          refine lv_iconst (v := nI 1) hx hb dX7_mayActs_110 (by decide) ?_
          refine lv_iload hx hb dX7_mayActs_111 (lv_at hl 1 rfl) ?_
          refine lv_ishl hx hb dX7_mayActs_113 ?_
          refine lv_ior hx hb dX7_mayActs_114 ?_
          refine rp_32 F hK hR dX7_mayActs_115 (fun H locs hR => ?_)
          refine lv_aload_n hx hb dX7_mayActs_118 rfl (lv_at hl 5 rfl) ?_
          refine rg_33 F hK hR dX7_mayActs_119 ?_
          refine lv_iconst (v := nI 4) hx hb dX7_mayActs_122 (by decide) ?_
          refine lv_iload hx hb dX7_mayActs_123 (lv_at hl 1 rfl) ?_
          refine nv_imul hx hb dX7_mayActs_125 ?_
          refine lv_iload hx hb dX7_mayActs_126 (lv_at hl 0 rfl) ?_
          refine nv_iadd hx hb dX7_mayActs_128 ?_
          refine lv_iconst (v := nI 1) hx hb dX7_mayActs_129 (by decide) ?_
          refine rs_33 F hK hR (by omega) (by decide) dX7_mayActs_130 (fun H locs hR => ?_)
          refine lv_goto (tgt := 154) hx hb dX7_mayActs_131 (by decide) ?_
          refine lv_iinc (v := nI (i + 1)) (lv' := [(2, .int (nI (i + 1))), (6, .int (nI g)), (5, .int (nI z)), (4, .int (nI so)), (3, .int (nI (40 * mm + 4 * i))), (0, .ref (adr 0)), (1, .int (nI mm))]) hx hb dX7_mayActs_154 hl (k := 4) rfl (nI_add _ _) (by decide) rfl (fun ls hl => ?_)
          refine lv_goto (tgt := 2) hx hb dX7_mayActs_157 (by decide) ?_
          replace hR : rB G A adr S (ma_X S X mm (i + 1)) s.heap H locs := gw_B.to hR (congrArg (rcel G adr S) (by rw [ma_X]; unfold ma_1; rw [hso, nI_clamp (by omega)]; rw [if_pos c_102, hza, hgb, nI_clamp (n := z) (by omega), nI_clamp (n := g) (by omega)]))
          exact ih _ _ _ _ (lv_sub hl [0, 5, 6] rfl) (by omega) hR (by omega)
      · have n_58 : ¬ (3 < so) := by omega
        obtain ⟨z, g, hz, hg, hzb, hgc⟩ := hq.1 (by omega) (by omega)
        replace hl : lv_has ls 7 [(6, .int (nI z)), (5, .int (S 11 (40 * mm + 4 * i + 1))), (4, .int (nI so)), (3, .int (nI (40 * mm + 4 * i))), (2, .int (nI i)), (0, .ref (adr 0)), (1, .int (nI mm))] := by rw [← hzb]; exact hl
        refine lv_aload_n hx hb dX7_mayActs_61 rfl (lv_at hl 5 rfl) ?_
        refine rg_7 F hK hR dX7_mayActs_62 ?_
        refine lv_iconst (v := nI 4) hx hb dX7_mayActs_65 (by decide) ?_
        refine lv_iload hx hb dX7_mayActs_66 (lv_at hl 0 rfl) ?_
        refine nv_imul hx hb dX7_mayActs_68 ?_
        refine lv_aload_n hx hb dX7_mayActs_69 rfl (lv_at hl 5 rfl) ?_
        refine rg_11 F hK hR dX7_mayActs_70 ?_
        refine lv_iload_n hx hb dX7_mayActs_73 rfl (lv_at hl 3 rfl) ?_
        refine lv_iconst (v := nI 3) hx hb dX7_mayActs_74 (by decide) ?_
        refine nv_iadd hx hb dX7_mayActs_75 ?_
        refine ri_11 F hK hR (by omega) dX7_mayActs_76 ?_
        refine lv_eq (hgc) ?_
        refine nv_iadd hx hb dX7_mayActs_77 ?_
        refine ri_7 F hK hR (by omega) dX7_mayActs_78 ?_
        refine lv_if_ne (tgt := 98) hx hb dX7_mayActs_79 (by decide) (fun c_79 => ?_) (fun c_79 => ?_)
        · refine lv_iload hx hb dX7_mayActs_98 (lv_at hl 2 rfl) ?_
          refine lv_bipush (v := nI 7) hx hb dX7_mayActs_100 (by decide) ?_
          refine nv_icmp_ne (by omega) (by omega) hx hb dX7_mayActs_102 (tgt := 134) (by decide) (fun c_102 => ?_) (fun c_102 => absurd c_102 (by omega))
          refine lv_iload hx hb dX7_mayActs_134 (lv_at hl 2 rfl) ?_
          refine lv_bipush (v := nI 8) hx hb dX7_mayActs_136 (by decide) ?_
          refine nv_icmp_ne (by omega) (by omega) hx hb dX7_mayActs_138 (tgt := 154) (by decide) (fun c_138 => ?_) (fun c_138 => absurd c_138 (by omega))
          refine lv_iinc (v := nI (i + 1)) (lv' := [(2, .int (nI (i + 1))), (6, .int (nI z)), (5, .int (S 11 (40 * mm + 4 * i + 1))), (4, .int (nI so)), (3, .int (nI (40 * mm + 4 * i))), (0, .ref (adr 0)), (1, .int (nI mm))]) hx hb dX7_mayActs_154 hl (k := 4) rfl (nI_add _ _) (by decide) rfl (fun ls hl => ?_)
          refine lv_goto (tgt := 2) hx hb dX7_mayActs_157 (by decide) ?_
          replace hR : rB G A adr S (ma_X S X mm (i + 1)) s.heap H locs := gw_B.to hR (congrArg (rcel G adr S) (by rw [ma_X]; unfold ma_1; rw [hso, nI_clamp (by omega)]; rw [if_neg (by omega), if_neg (by omega), hzb, hgc, nI_clamp (n := z) (by omega), nI_clamp (n := g) (by omega), if_neg (fun q => c_79 q.2.2)]))
          exact ih _ _ _ _ (lv_sub hl [0, 5, 6] rfl) (by omega) hR (by omega)
        · refine lv_aload_n hx hb dX7_mayActs_82 rfl (lv_at hl 5 rfl) ?_
          refine lv_dup hx hb dX7_mayActs_83 rfl ?_
          refine rg_32 F hK hR dX7_mayActs_84 ?_
          refine lv_iconst (v := nI 1) hx hb dX7_mayActs_87 (by decide) ?_
          refine lv_iload hx hb dX7_mayActs_88 (lv_at hl 0 rfl) ?_
          refine lv_ishl hx hb dX7_mayActs_90 ?_
          refine lv_ior hx hb dX7_mayActs_91 ?_
          refine rp_32 F hK hR dX7_mayActs_92 (fun H locs hR => ?_)
          refine lv_goto (tgt := 154) hx hb dX7_mayActs_95 (by decide) ?_
          refine lv_iinc (v := nI (i + 1)) (lv' := [(2, .int (nI (i + 1))), (6, .int (nI z)), (5, .int (S 11 (40 * mm + 4 * i + 1))), (4, .int (nI so)), (3, .int (nI (40 * mm + 4 * i))), (0, .ref (adr 0)), (1, .int (nI mm))]) hx hb dX7_mayActs_154 hl (k := 4) rfl (nI_add _ _) (by decide) rfl (fun ls hl => ?_)
          refine lv_goto (tgt := 2) hx hb dX7_mayActs_157 (by decide) ?_
          replace hR : rB G A adr S (ma_X S X mm (i + 1)) s.heap H locs := gw_B.to hR (congrArg (rcel G adr S) (by rw [ma_X]; unfold ma_1; rw [hso, nI_clamp (by omega)]; rw [if_neg (by omega), if_neg (by omega), hzb, hgc, nI_clamp (n := z) (by omega), nI_clamp (n := g) (by omega), if_pos ⟨by omega, by omega, c_79⟩]))
          exact ih _ _ _ _ (lv_sub hl [0, 5, 6] rfl) (by omega) hR (by omega)
