/-! THE CLASS, 11: the Reach, its loops -/
def rI (n : Nat) (st : rST) : Prop := ∃ sz, sz ≤ 48 ∧ st.1 3 0 = nI sz ∧ ∀ i, i < sz → ∃ mm, mm < 4 * n ∧ st.1 4 i = nI mm
theorem rI_list {n mm : Nat} {st : rST} (h : rI n st) (hm : mm < 4 * n) : rI n (rl_list mm st) := by
  obtain ⟨sz, h1, h2, h3⟩ := h
  obtain ⟨Y, L⟩ := st
  by_cases c1 : L &&& lb mm = 0
  · by_cases c2 : 48 ≤ sz
    · rw [rl_2 c1 h2 h1 c2]; exact ⟨sz, h1, h2, h3⟩
    · rw [rl_3 c1 h2 h1 c2]
      refine ⟨sz + 1, by omega, show m2 (m2 Y 4 sz (nI mm)) 3 0 (nI (sz + 1)) 3 0 = _ from m2_at, fun i hi => ?_⟩
      show ∃ k, k < 4 * n ∧ m2 (m2 Y 4 sz (nI mm)) 3 0 (nI (sz + 1)) 4 i = nI k
      rw [m2_nk (show 4 ≠ 3 by decide)]
      by_cases q : i = sz
      · subst q
        exact ⟨mm, hm, m2_at⟩
      · rw [m2_o q]
        exact h3 i (by omega)
  · rw [rl_1 c1]; exact ⟨sz, h1, h2, h3⟩
theorem rI_w {n : Nat} {Y : Nat → Nat → Int32} {L : Int64} {v : Int32} (h : rI n (Y, L)) : rI n (m2 Y 2 0 v, L) := by
  obtain ⟨sz, h1, h2, h3⟩ := h
  exact ⟨sz, h1, show m2 Y 2 0 v 3 0 = nI sz from (m2_nk (show 3 ≠ 2 by decide)).trans h2, fun i hi => by obtain ⟨k, k1, k2⟩ := h3 i hi; exact ⟨k, k1, show m2 Y 2 0 v 4 i = nI k from (m2_nk (show 4 ≠ 2 by decide)).trans k2⟩⟩
theorem rI_add {n x : Nat} {st : rST} (h : rI n st) (hx : x < n) : rI n (rl_add x st) := rI_list (rI_w h) (by omega)
def rkA (S : Nat → Nat → Int32) (y : Nat) (st : rST) : rST := if S 2 y = 0 then st else rl_add y st
def rkL (E : Nat → rST → rST) (S : Nat → Nat → Int32) (x : Nat) : Nat → Nat → rST → rST
  | 0, _, st => st
  | r + 1, i, st => rkL E S x r (i + 1) (rkA S (S 5 (3 * x + i)).toNatClampNeg (E (S 5 (3 * x + i)).toNatClampNeg st))
def rk (S : Nat → Nat → Int32) : Nat → Nat → rST → rST
  | 0, _, st => st
  | lv + 1, x, st => rkL (rk S lv) S x (S 4 x).toNatClampNeg 0 st
theorem rI_A {n y : Nat} {S : Nat → Nat → Int32} {st : rST} (h : rI n st) (hy : y < n) : rI n (rkA S y st) := by
  unfold rkA
  split
  · exact h
  · exact rI_add h hy
theorem rI_kL {n x : Nat} {S : Nat → Nat → Int32} {E : Nat → rST → rST} (hs : sI n S) (hx : x < n) (hE : ∀ y st, y < n → rI n st → rI n (E y st)) : ∀ (r i : Nat) (st : rST), i + r = (S 4 x).toNatClampNeg → rI n st → rI n (rkL E S x r i st) := by
  intro r
  induction r with
  | zero => intro i st _ h; exact h
  | succ r ih =>
    intro i st hi h
    have hy := (sI_face hs hx (show i < (S 4 x).toNatClampNeg by omega)).1
    exact ih (i + 1) _ (by omega) (rI_A (hE _ _ (by omega) h) (by omega))
theorem rI_k {n : Nat} {S : Nat → Nat → Int32} (hs : sI n S) : ∀ (lv x : Nat) (st : rST), x < n → rI n st → rI n (rk S lv x st) := by
  intro lv
  induction lv with
  | zero => intro x st _ h; exact h
  | succ lv ih => intro x st hx h; exact rI_kL hs hx (fun y st hy hst => ih y st hy hst) _ 0 st (by omega) h
def rwK (S : Nat → Nat → Int32) (x : Nat) (st : rST) : rST := if S 1 x = 0 then rk S 12 x st else st
def rwL (S : Nat → Nat → Int32) : Nat → Nat → rST → rST
  | 0, _, st => st
  | r + 1, x, st => if ¬ st.1 2 0 &&& b1 x = 0 then st else if S 3 x = -1 then rwK S x (rl_add x st) else rwL S r (S 3 x).toNatClampNeg (rwK S x (rl_add x st))
theorem rI_wK {n x : Nat} {S : Nat → Nat → Int32} {st : rST} (hs : sI n S) (hx : x < n) (h : rI n st) : rI n (rwK S x st) := by
  unfold rwK
  split
  · exact rI_k hs 12 x st hx h
  · exact h
theorem rI_wL {n : Nat} {S : Nat → Nat → Int32} (hs : sI n S) : ∀ (r x : Nat) (st : rST), x < n → rI n st → rI n (rwL S r x st) := by
  intro r
  induction r with
  | zero => intro x st _ h; exact h
  | succ r ih =>
    intro x st hx h
    rw [rwL]
    split
    · exact h
    · have h2 := rI_wK hs hx (rI_add h hx)
      split
      · exact h2
      · rename_i hp
        exact ih _ _ (by have := (sI_par hs hx hp).1; omega) h2
def rfA (S : Nat → Nat → Int32) (x q i : Nat) (st : rST) : rST := if evW S x q i = -1 then st else rwL S 12 (evW S x q i).toNatClampNeg st
def rfB (S : Nat → Nat → Int32) (x q i : Nat) (st : rST) : rST := if (S 11 (aT x q i)).toNatClampNeg = 7 then rl_list (4 * (S 11 (aT x q i + 1)).toNatClampNeg + (S 11 (aT x q i + 2)).toNatClampNeg) st else st
def rfL (S : Nat → Nat → Int32) (x q : Nat) : Nat → Nat → rST → rST
  | 0, _, st => st
  | r + 1, i, st => rfL S x q r (i + 1) (rfB S x q i (rfA S x q i st))
def rfo (S : Nat → Nat → Int32) (mm : Nat) (st : rST) : rST := rfL S (mm / 4) (mm % 4) (S 10 mm).toNatClampNeg 0 st
def rmL2 (S : Nat → Nat → Int32) : Nat → Nat → rST → rST
  | 0, _, st => st
  | r + 1, i, st => if rsz st ≤ i then st else rmL2 S r (i + 1) (rfo S (st.1 4 i).toNatClampNeg st)
def rcl0 (st : rST) : rST := (m2 (m2 st.1 2 0 (nI 0)) 3 0 (nI 0), 0)
def rOf (S : Nat → Nat → Int32) (x q : Nat) (st : rST) : rST := rmL2 S 48 0 (rl_list (4 * x + q) (rwL S 12 x (rcl0 st)))
def rSt (S : Nat → Nat → Int32) (x : Nat) (st : rST) : rST := rwL S 12 x (rcl0 st)
theorem rI_cl {n : Nat} {st : rST} : rI n (rcl0 st) := ⟨0, by omega, show m2 (m2 st.1 2 0 (nI 0)) 3 0 (nI 0) 3 0 = _ from m2_at, fun i hi => absurd hi (by omega)⟩
theorem rI_fL {n x q : Nat} {S : Nat → Nat → Int32} (hs : sI n S) (hx : x < n) (hq : q < 4) : ∀ (r i : Nat) (st : rST), i + r = (S 10 (4 * x + q)).toNatClampNeg → rI n st → rI n (rfL S x q r i st) := by
  intro r
  induction r with
  | zero => intro i st _ h; exact h
  | succ r ih =>
    intro i st hi h
    have hn := hs.1
    have hok := sI_act hs hx hq (show i < (S 10 (4 * x + q)).toNatClampNeg by omega)
    refine ih (i + 1) _ (by omega) ?_
    have h1 : rI n (rfA S x q i st) := by
      unfold rfA
      split
      · exact h
      · rename_i hw
        exact rI_wL hs 12 _ st (evW_z hok hn hw).1 h
    unfold rfB
    split
    · rename_i h7
      obtain ⟨so, h12, hso, hv⟩ := act_so hok
      have e : so = 7 := by rw [hso, nI_clamp (by omega)] at h7; exact h7
      subst e
      obtain ⟨z, hz, hze⟩ := act_z7 hok hso (by omega) (by omega)
      obtain ⟨g, hg, hge⟩ := are_7 hv
      refine rI_list h1 ?_
      rw [hze, hge, nI_clamp (by omega), nI_clamp (by omega)]
      omega
    · exact h1
theorem rI_fo {n mm : Nat} {S : Nat → Nat → Int32} {st : rST} (hs : sI n S) (hm : mm < 4 * n) (h : rI n st) : rI n (rfo S mm st) := by
  unfold rfo
  have e : 4 * (mm / 4) + mm % 4 = mm := by omega
  exact rI_fL hs (by omega) (by omega) _ 0 st (by rw [e]; omega) h
set_option maxHeartbeats 4000000 in
set_option maxRecDepth 100000 in
/-- Reach.lookThrough(kind, levels) -/
theorem c_X5_lookThrough (l : Launch) (G : gw_G) (A : Nat → Prop) (adr : Nat → Nat) (n : Nat) (S : Nat → Nat → Int32) (hs : sI n S) : ∀ (lv : Nat) (hlv : lv ≤ 12) (Y : Nat → Nat → Int32) (L : Int64) (x : Nat) (hxn : x < n) (hI : rI n (Y, L)), gm l yX5_lookThrough cX5_lookThrough 5 none (rmL (lv + 3)) 0 0 A [.ref (adr 6), .ref (adr (nk x 0)), .int (nI lv)] (gW G A adr (ccel G adr n S Y L)) (gW G A adr (ccel G adr n S (rk S lv x (Y, L)).1 (rk S lv x (Y, L)).2)) none := by
  intro lv
  have hn12 := hs.1
  induction lv with
  | zero =>
    intro _ Y L x hxn hI
    refine gm_of (own := RX5) (by decide) rfl (Nat.le_of_ble_eq_true rfl) ?_
    intro p e s m below meth c ls F hml hr hlk hnm hK hR hl
    have hx := F.1
    have hb := F.2.1
    replace hl : lv_has ls 5 [(0, .ref (adr 6)), (1, .ref (adr (nk x 0))), (2, .int (nI 0))] := hl
    obtain ⟨fc, hfc3, hfe⟩ := hs.2.2.1 x (by omega)
    refine lv_iconst (v := nI 0) hx hb dX5_lookThrough_0 (by decide) ?_
    refine lv_istore_n (lv' := [(3, .int (nI 0)), (0, .ref (adr 6)), (1, .ref (adr (nk x 0))), (2, .int (nI 0))]) hx hb dX5_lookThrough_1 rfl hl (by decide) rfl (fun ls hl => ?_)
    refine lv_iload_n hx hb dX5_lookThrough_2 rfl (lv_at hl 0 rfl) ?_
    refine lv_aload_n hx hb dX5_lookThrough_3 rfl (lv_at hl 2 rfl) ?_
    refine kg_5 F hK hR (by omega) fl_X5_84 dX5_lookThrough_4 ?_
    refine lv_eq (hfe) ?_
    refine nv_icmp_ge (by omega) (by omega) hx hb dX5_lookThrough_7 (tgt := 51) (by decide) (fun c_7 => ?_) (fun c_7 => ?_)
    · have n_7 : ¬ (0 < fc) := by omega
      exact gr_v F hr hlk hK hR dX5_lookThrough_51 (rfl)
    · have n_7 : ¬ (fc ≤ 0) := by omega
      refine lv_iload_n hx hb dX5_lookThrough_10 rfl (lv_at hl 3 rfl) ?_
      refine nv_if_le (by omega) hx hb dX5_lookThrough_11 (tgt := 51) (by decide) (fun c_11 => ?_) (fun c_11 => absurd c_11 (by omega))
      exact gr_v F hr hlk hK hR dX5_lookThrough_51 (rfl)
  | succ lv ih0 =>
    intro hlv Y L x hxn hI
    have ih := ih0 (by omega)
    refine gm_of (own := RX5) (by decide) rfl (Nat.le_of_ble_eq_true rfl) ?_
    intro p e s m below meth c ls F hml hr hlk hnm hK hR hl
    have hx := F.1
    have hb := F.2.1
    replace hl : lv_has ls 5 [(0, .ref (adr 6)), (1, .ref (adr (nk x 0))), (2, .int (nI (lv + 1)))] := hl
    refine lv_iconst (v := nI 0) hx hb dX5_lookThrough_0 (by decide) ?_
    refine lv_istore_n (lv' := [(3, .int (nI 0)), (0, .ref (adr 6)), (1, .ref (adr (nk x 0))), (2, .int (nI (lv + 1)))]) hx hb dX5_lookThrough_1 rfl hl (by decide) rfl (fun ls hl => ?_)
    obtain ⟨fc, hfc3, hfe⟩ := hs.2.2.1 x (by omega)
    have hfn : (S 4 x).toNatClampNeg = fc := by rw [hfe, nI_clamp (by omega)]
    obtain ⟨R0, hR0⟩ : ∃ R0, R0 = rk S (lv + 1) x (Y, L) := ⟨_, rfl⟩
    rw [← hR0]
    refine lp_gen hR (fun H locs hR => ?_)
    obtain ⟨i, hi0⟩ : ∃ i : Nat, i = 0 := ⟨_, rfl⟩
    obtain ⟨st, hst0⟩ : ∃ st : rST, st = (Y, L) := ⟨_, rfl⟩
    have hI0 : rI n st := by rw [hst0]; exact hI
    have hle : i ≤ fc := by omega
    have hQ : rkL (rk S lv) S x (fc - i) i st = R0 := by rw [hR0, rk, hi0, hst0, hfn, Nat.sub_zero]
    generalize hdd : fc - i = dd at hQ
    replace hl : lv_has ls 5 [(3, .int (nI i)), (0, .ref (adr 6)), (1, .ref (adr (nk x 0))), (2, .int (nI (lv + 1)))] := by rw [hi0]; exact lv_sub hl [0, 1, 2, 3] rfl
    replace hR : cB G A adr n S st.1 st.2 s.heap H locs := by rw [hst0]; exact hR
    clear hR0 hi0 hst0 hI
    induction dd generalizing i st ls H locs with
    | zero =>
      have hRw : st = R0 := hQ
      refine lv_iload_n hx hb dX5_lookThrough_2 rfl (lv_at hl 0 rfl) ?_
      refine lv_aload_n hx hb dX5_lookThrough_3 rfl (lv_at hl 2 rfl) ?_
      refine kg_5 F hK hR (by omega) fl_X5_84 dX5_lookThrough_4 ?_
      refine lv_eq (hfe) ?_
      refine nv_icmp_ge (by omega) (by omega) hx hb dX5_lookThrough_7 (tgt := 51) (by decide) (fun c_7 => ?_) (fun c_7 => absurd c_7 (by omega))
      exact gr_v F hr hlk hK hR dX5_lookThrough_51 (by rw [← hRw])
    | succ dd ih2 =>
      obtain ⟨hyx, hye⟩ := sI_face hs hxn (show i < (S 4 x).toNatClampNeg by rw [hfn]; omega)
      obtain ⟨y, hyy⟩ : ∃ y, (S 5 (3 * x + i)).toNatClampNeg = y := ⟨_, rfl⟩
      rw [hyy] at hyx hye
      refine lv_iload_n hx hb dX5_lookThrough_2 rfl (lv_at hl 0 rfl) ?_
      refine lv_aload_n hx hb dX5_lookThrough_3 rfl (lv_at hl 2 rfl) ?_
      refine kg_5 F hK hR (by omega) fl_X5_84 dX5_lookThrough_4 ?_
      refine lv_eq (hfe) ?_
      refine nv_icmp_ge (by omega) (by omega) hx hb dX5_lookThrough_7 (tgt := 51) (by decide) (fun c_7 => absurd c_7 (by omega)) (fun c_7 => ?_)
      refine lv_iload_n hx hb dX5_lookThrough_10 rfl (lv_at hl 3 rfl) ?_
      refine nv_if_le (by omega) hx hb dX5_lookThrough_11 (tgt := 51) (by decide) (fun c_11 => absurd c_11 (by omega)) (fun c_11 => ?_)
      refine lv_aload_n hx hb dX5_lookThrough_14 rfl (lv_at hl 2 rfl) ?_
      refine kg_4 F hK hR (by omega) fl_X5_87 dX5_lookThrough_15 ?_
      refine lv_iload_n hx hb dX5_lookThrough_18 rfl (lv_at hl 0 rfl) ?_
      refine fc_ld F hK hR (by omega) (hfe) (by omega) (by omega) (hye) (by omega) dX5_lookThrough_19 ?_
      refine lv_astore (lv' := [(4, .ref (adr (nk y 0))), (3, .int (nI i)), (0, .ref (adr 6)), (1, .ref (adr (nk x 0))), (2, .int (nI (lv + 1)))]) hx hb dX5_lookThrough_20 hl (by decide) rfl (fun ls hl => ?_)
      refine lv_aload_n hx hb dX5_lookThrough_22 rfl (lv_at hl 2 rfl) ?_
      refine lv_aload hx hb dX5_lookThrough_23 (lv_at hl 0 rfl) ?_
      refine lv_iload_n hx hb dX5_lookThrough_25 rfl (lv_at hl 4 rfl) ?_
      refine lv_iconst (v := nI 1) hx hb dX5_lookThrough_26 (by decide) ?_
      refine nv_isub (by omega) hx hb dX5_lookThrough_27 ?_
      refine gcVv (As := [.ref (adr (nk y 0)), .int (nI (lv + 1 - 1))]) F hK hR hml cv_X5_77 (o := 6) (rfl) rfl rfl (ih st.1 st.2 y (by omega) hI0) ⟨rfl, rfl⟩ ⟨by dsimp only [rmL]; omega, by dsimp only [rmL]; omega⟩ rfl rfl hl.1 (Nat.le_of_ble_eq_true rfl) dX5_lookThrough_28 ⟨Nat.zero_le _, Nat.zero_le _⟩ (fun H locs hR => ?_)
      have hI1 := rI_k hs lv y st (by omega) hI0
      generalize hr1 : rk S lv y st = st1 at hI1 hR ⊢
      skip
      obtain ⟨sz1, hs48, hz1, -⟩ := id hI1
      refine lv_aload hx hb dX5_lookThrough_31 (lv_at hl 0 rfl) ?_
      refine kg_2 F hK hR (by omega) fl_X5_91 dX5_lookThrough_33 ?_
      refine lv_if_eq (tgt := 45) hx hb dX5_lookThrough_36 (by decide) (fun c_36 => ?_) (fun c_36 => ?_)
      · refine lv_iinc (v := nI (i + 1)) (lv' := [(3, .int (nI (i + 1))), (4, .ref (adr (nk y 0))), (0, .ref (adr 6)), (1, .ref (adr (nk x 0))), (2, .int (nI (lv + 1)))]) hx hb dX5_lookThrough_45 hl (k := 1) rfl (nI_add _ _) (by decide) rfl (fun ls hl => ?_)
        refine lv_goto (tgt := 2) hx hb dX5_lookThrough_48 (by decide) ?_
        have hQ2 : rkL (rk S lv) S x dd (i + 1) st1 = R0 := by rw [← hQ, rkL, hyy, hr1, rkA, if_pos c_36]
        have hI2 : rI n st1 := hI1
        exact ih2 _ _ _ (i + 1) st1 hI2 (by omega) (by omega) hQ2 (lv_sub hl [0, 2, 3, 4] rfl) hR
      · refine lv_aload_n hx hb dX5_lookThrough_39 rfl (lv_at hl 2 rfl) ?_
        refine lv_aload hx hb dX5_lookThrough_40 (lv_at hl 0 rfl) ?_
        refine gcVv (As := [.ref (adr (nk y 0))]) F hK hR hml cv_X5_70 (o := 6) (rfl) rfl rfl (c_X5_add l G A adr n S st1.1 st1.2 y sz1 (by omega) hz1 (by omega) (by omega)) ⟨rfl, rfl⟩ ⟨by dsimp only [rmL]; omega, by dsimp only [rmL]; omega⟩ rfl rfl hl.1 (Nat.le_of_ble_eq_true rfl) dX5_lookThrough_42 ⟨Nat.zero_le _, Nat.zero_le _⟩ (fun H locs hR => ?_)
        refine lv_iinc (v := nI (i + 1)) (lv' := [(3, .int (nI (i + 1))), (4, .ref (adr (nk y 0))), (0, .ref (adr 6)), (1, .ref (adr (nk x 0))), (2, .int (nI (lv + 1)))]) hx hb dX5_lookThrough_45 hl (k := 1) rfl (nI_add _ _) (by decide) rfl (fun ls hl => ?_)
        refine lv_goto (tgt := 2) hx hb dX5_lookThrough_48 (by decide) ?_
        have hQ2 : rkL (rk S lv) S x dd (i + 1) (rl_add y st1) = R0 := by rw [← hQ, rkL, hyy, hr1, rkA, if_neg c_36]
        have hI2 : rI n (rl_add y st1) := rI_add hI1 (by omega)
        exact ih2 _ _ _ (i + 1) (rl_add y st1) hI2 (by omega) (by omega) hQ2 (lv_sub hl [0, 2, 3, 4] rfl) hR
