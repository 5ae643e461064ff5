/-! THE CLASS, 15: lastGuarded -/
def lgB (a : Nat → Int32) (mm : Nat) (t : Nat → Nat) (i b : Nat) : Nat → Nat
  | 0 => b
  | j + 1 => if a (40 * mm + 4 * j) = nI 11 ∧ i ≤ t j then Nat.min (lgB a mm t i b j) (t j) else lgB a mm t i b j
theorem lgC_B (a : Nat → Int32) (mm : Nat) (t : Nat → Nat) (i : Nat) : ∀ j, lgC a mm t i j = lgB a mm t i (i + (a (40 * mm + 4 * i + 1)).toNatClampNeg) j := by
  intro j
  induction j with
  | zero => rfl
  | succ j ih => rw [lgC, lgB, ih]
theorem lgB_le (a : Nat → Int32) (mm : Nat) (t : Nat → Nat) (i b : Nat) : ∀ j, lgB a mm t i b j ≤ b := by
  intro j
  induction j with
  | zero => exact Nat.le_refl _
  | succ j ih =>
    rw [lgB]
    split
    · exact Nat.le_trans (Nat.min_le_left _ _) ih
    · exact ih
theorem lgB_congr {a a2 : Nat → Int32} {mm : Nat} {t : Nat → Nat} {i b : Nat} : ∀ j, (∀ k, k < j → a2 (40 * mm + 4 * k) = a (40 * mm + 4 * k)) → lgB a2 mm t i b j = lgB a mm t i b j := by
  intro j
  induction j with
  | zero => intro _; rfl
  | succ j ih => intro h; rw [lgB, lgB, ih (fun k hk => h k (by omega)), h j (by omega)]
theorem lgT_congr {a a2 : Nat → Int32} {mm : Nat} : ∀ i, (∀ k, k < i → a2 (40 * mm + 4 * k) = a (40 * mm + 4 * k) ∧ a2 (40 * mm + 4 * k + 1) = a (40 * mm + 4 * k + 1)) → lgT a2 mm i = lgT a mm i := by
  intro i
  induction i with
  | zero => intro _; rfl
  | succ i ih =>
    intro h
    have e := ih (fun k hk => h k (by omega))
    funext j
    rw [lgT, lgT, e, lgC_B, lgC_B, (h i (by omega)).2, lgB_congr i (fun k hk => (h k (by omega)).1)]
theorem lgT_lt {a : Nat → Int32} {mm : Nat} : ∀ i j, j < i → lgT a mm i j = lgN a mm j := by
  intro i
  induction i with
  | zero => intro j h; omega
  | succ i ih =>
    intro j h
    by_cases c : j = i
    · subst c; rfl
    · rw [lgT]; dsimp only; rw [if_neg c]; exact ih j (by omega)
theorem lgN_B {a : Nat → Int32} {mm i : Nat} : lgN a mm i = lgB a mm (lgT a mm i) i (i + (a (40 * mm + 4 * i + 1)).toNatClampNeg) i := by
  rw [← lgC_B, lgN, lgT]; dsimp only; rw [if_pos rfl]
theorem lgN_congr {a a2 : Nat → Int32} {mm i : Nat} (h : ∀ k, k ≤ i → a2 (40 * mm + 4 * k) = a (40 * mm + 4 * k) ∧ a2 (40 * mm + 4 * k + 1) = a (40 * mm + 4 * k + 1)) : lgN a2 mm i = lgN a mm i := by
  rw [lgN, lgN, lgT_congr (i + 1) (fun k hk => h k (by omega))]
/-- where the acts of a TRY that comes next end -/
def lgX (a : Nat → Int32) (mm ac len : Nat) : Nat := lgB a mm (lgT a mm ac) ac (ac + len) ac
theorem gd_yes {a : Nat → Int32} {mm j ac : Nat} (h : ¬ gdI a mm j ac = 0) (hb : a (40 * mm + 4 * j) = nI 11 → lgN a mm j < 1000) (hac : ac < 1000) : a (40 * mm + 4 * j) = nI 11 ∧ ac ≤ lgN a mm j ∧ lgI a mm j = nI (lgN a mm j) := by
  unfold gdI at h
  by_cases c : a (40 * mm + 4 * j) = nI 11
  · rw [if_pos c] at h
    have e : lgI a mm j = nI (lgN a mm j) := by rw [lgI, if_pos c]
    have := hb c
    refine ⟨c, ?_, e⟩
    rw [e] at h
    by_cases d : lgN a mm j < ac
    · rw [if_pos (nI_lt d (by omega))] at h; exact absurd rfl h
    · omega
  · rw [if_neg c] at h; exact absurd rfl h
theorem gd_no {a : Nat → Int32} {mm j ac : Nat} (h : gdI a mm j ac = 0) (hb : a (40 * mm + 4 * j) = nI 11 → lgN a mm j < 1000) : ¬ (a (40 * mm + 4 * j) = nI 11 ∧ ac ≤ lgN a mm j) := by
  rintro ⟨c, d⟩
  unfold gdI at h
  have := hb c
  rw [if_pos c, show lgI a mm j = nI (lgN a mm j) by rw [lgI, if_pos c], if_neg (nI_nlt d (by omega))] at h
  exact absurd h (by decide)
theorem min_v {a b : Nat} (ha : a < 1000) (hb : b < 1000) : (if nI b < nI a then nI b else nI a) = nI (Nat.min a b) := by
  by_cases h : b < a
  · rw [if_pos (nI_lt h (by omega)), show Nat.min a b = b from Nat.min_eq_right (by omega)]
  · rw [if_neg (nI_nlt (by omega) (by omega)), show Nat.min a b = a from Nat.min_eq_left (by omega)]
set_option maxHeartbeats 4000000 in
set_option maxRecDepth 100000 in
/-- Method.lastGuarded(length) -/
theorem c_X4_lastGuarded (l : Launch) (G : gw_G) (A : Nat → Prop) (adr : Nat → Nat) (n : Nat) (S Y : Nat → Nat → Int32) (L : Int64) (x q ac len : Nat) (hxn : x < n) (hn12 : n ≤ 12) (hq : q < 4) (hac : S 10 (4 * x + q) = nI ac) (h10 : ac ≤ 9) (hlen : len ≤ 9) (hok : ∀ j, j < ac → S 11 (40 * (4 * x + q) + 4 * j) = nI 11 → (S 11 (40 * (4 * x + q) + 4 * j + 1)).toNatClampNeg ≤ 9) : gm l yX4_lastGuarded cX4_lastGuarded 4 (some .int) (rmL 1) 0 0 A [.ref (adr (nk x (6 + q))), .int (nI len)] (gW G A adr (ccel G adr n S Y L)) (gW G A adr (ccel G adr n S Y L)) (some (.int (nI (lgX (S 11) (4 * x + q) ac len)))) := by
  refine gm_of (own := RX4) (by decide) rfl (Nat.le_of_ble_eq_true rfl) ?_
  intro p e s m below meth c ls F hml hr hlk hnm hK hR hl
  have hx := F.1
  have hb := F.2.1
  replace hl : lv_has ls 4 [(0, .ref (adr (nk x (6 + q)))), (1, .int (nI len))] := hl
  refine lv_aload_n hx hb dX4_lastGuarded_0 rfl (lv_at hl 0 rfl) ?_
  refine mg_2 F hK hR (by omega) (by omega) fl_X4_17 dX4_lastGuarded_1 ?_
  refine lv_eq (hac) ?_
  refine lv_iload_n hx hb dX4_lastGuarded_4 rfl (lv_at hl 1 rfl) ?_
  refine nv_iadd hx hb dX4_lastGuarded_5 ?_
  refine lv_istore_n (lv' := [(2, .int (nI (ac + len))), (0, .ref (adr (nk x (6 + q)))), (1, .int (nI len))]) hx hb dX4_lastGuarded_6 rfl hl (by decide) rfl (fun ls hl => ?_)
  refine lv_iconst (v := nI 0) hx hb dX4_lastGuarded_7 (by decide) ?_
  refine lv_istore_n (lv' := [(3, .int (nI 0)), (2, .int (nI (ac + len))), (0, .ref (adr (nk x (6 + q)))), (1, .int (nI len))]) hx hb dX4_lastGuarded_8 rfl hl (by decide) rfl (fun ls hl => ?_)
  refine lp_gen hR (fun H locs hR => ?_)
  obtain ⟨j, hj0⟩ : ∃ j : Nat, j = 0 := ⟨_, rfl⟩
  have hle : j ≤ ac := by omega
  obtain ⟨lb, hlb⟩ : ∃ lb, lb = lgB (S 11) (4 * x + q) (lgT (S 11) (4 * x + q) ac) ac (ac + len) j := ⟨_, rfl⟩
  replace hl : lv_has ls 4 [(3, .int (nI j)), (2, .int (nI lb)), (0, .ref (adr (nk x (6 + q)))), (1, .int (nI len))] := by rw [hlb, hj0]; exact lv_sub hl [0, 1, 2, 3] rfl
  replace hR : cB G A adr n S Y L s.heap H locs := hR
  clear hj0
  generalize hd : ac - j = d
  induction d generalizing j lb ls H locs with
  | zero =>
    have ek : j = ac := by omega
    refine lv_iload_n hx hb dX4_lastGuarded_9 rfl (lv_at hl 0 rfl) ?_
    refine lv_aload_n hx hb dX4_lastGuarded_10 rfl (lv_at hl 2 rfl) ?_
    refine mg_2 F hK hR (by omega) (by omega) fl_X4_17 dX4_lastGuarded_11 ?_
    refine lv_eq (hac) ?_
    refine nv_icmp_ge (by omega) (by omega) hx hb dX4_lastGuarded_14 (tgt := 53) (by decide) (fun c_14 => ?_) (fun c_14 => absurd c_14 (by omega))
    refine lv_iload_n hx hb dX4_lastGuarded_53 rfl (lv_at hl 1 rfl) ?_
    exact gr_i F hr hlk hK hR dX4_lastGuarded_54 (by rw [hlb, ek]; rfl) (rfl)
  | succ d ih =>
    have hbd : S 11 (40 * (4 * x + q) + 4 * j) = nI 11 → lgN (S 11) (4 * x + q) j < 1000 := fun h => by have h1 := lgN_le (S 11) (4 * x + q) j; have h2 := hok j (by omega) h; omega
    have hlb9 : lb ≤ 30 := by have := lgB_le (S 11) (4 * x + q) (lgT (S 11) (4 * x + q) ac) ac (ac + len) j; omega
    refine lv_iload_n hx hb dX4_lastGuarded_9 rfl (lv_at hl 0 rfl) ?_
    refine lv_aload_n hx hb dX4_lastGuarded_10 rfl (lv_at hl 2 rfl) ?_
    refine mg_2 F hK hR (by omega) (by omega) fl_X4_17 dX4_lastGuarded_11 ?_
    refine lv_eq (hac) ?_
    refine nv_icmp_ge (by omega) (by omega) hx hb dX4_lastGuarded_14 (tgt := 53) (by decide) (fun c_14 => absurd c_14 (by omega)) (fun c_14 => ?_)
    refine lv_aload_n hx hb dX4_lastGuarded_17 rfl (lv_at hl 2 rfl) ?_
    refine mg_1 F hK hR (by omega) (by omega) fl_X4_13 dX4_lastGuarded_18 ?_
    refine lv_iload_n hx hb dX4_lastGuarded_21 rfl (lv_at hl 0 rfl) ?_
    refine ac_ld F hK hR (by omega) (by omega) (hac) (by omega) (by omega) dX4_lastGuarded_22 ?_
    refine lv_aload_n hx hb dX4_lastGuarded_23 rfl (lv_at hl 2 rfl) ?_
    refine mg_2 F hK hR (by omega) (by omega) fl_X4_17 dX4_lastGuarded_24 ?_
    refine lv_eq (hac) ?_
    refine gcVi (As := [.int (nI ac)]) F hK hR hml cv_X4_31 (o := nk x (14 + 10 * q + j)) ((ccel_k (by omega) (by omega)).trans (kc_t (by omega) (hac) (by omega) (by omega))) rfl rfl (c_X0_guards l G A adr n S Y L x q j ac ac (by omega) (by omega) hac (by omega) (by omega)) ⟨rfl, rfl⟩ ⟨Nat.le_of_ble_eq_true rfl, Nat.le_of_ble_eq_true rfl⟩ rfl rfl hl.1 (Nat.le_of_ble_eq_true rfl) dX4_lastGuarded_27 ⟨Nat.zero_le _, Nat.zero_le _⟩ (fun H locs hR => ?_)
    refine lv_if_eq (tgt := 47) hx hb dX4_lastGuarded_30 (by decide) (fun c_30 => ?_) (fun c_30 => ?_)
    · refine lv_iinc (v := nI (j + 1)) (lv' := [(3, .int (nI (j + 1))), (2, .int (nI lb)), (0, .ref (adr (nk x (6 + q)))), (1, .int (nI len))]) hx hb dX4_lastGuarded_47 hl (k := 0) rfl (nI_add _ _) (by decide) rfl (fun ls hl => ?_)
      refine lv_goto (tgt := 9) hx hb dX4_lastGuarded_50 (by decide) ?_
      have hv2 : nI lb = nI (lgB (S 11) (4 * x + q) (lgT (S 11) (4 * x + q) ac) ac (ac + len) (j + 1)) := by
        rw [lgB, if_neg (by rw [lgT_lt ac j (by omega)]; exact gd_no c_30 hbd), ← hlb]
      have hl2 : lv_has ls 4 [(3, .int (nI (j + 1))), (2, .int (nI (lgB (S 11) (4 * x + q) (lgT (S 11) (4 * x + q) ac) ac (ac + len) (j + 1)))), (0, .ref (adr (nk x (6 + q)))), (1, .int (nI len))] := by rw [← hv2]; exact lv_sub hl [0, 1, 2, 3] rfl
      exact ih _ _ _ (j + 1) (by omega) _ rfl hl2 hR (by omega)
    · have hg := gd_yes c_30 hbd (by omega)
      have hb1 := hbd hg.1
      refine lv_iload_n hx hb dX4_lastGuarded_33 rfl (lv_at hl 1 rfl) ?_
      refine lv_aload_n hx hb dX4_lastGuarded_34 rfl (lv_at hl 2 rfl) ?_
      refine mg_1 F hK hR (by omega) (by omega) fl_X4_13 dX4_lastGuarded_35 ?_
      refine lv_iload_n hx hb dX4_lastGuarded_38 rfl (lv_at hl 0 rfl) ?_
      refine ac_ld F hK hR (by omega) (by omega) (hac) (by omega) (by omega) dX4_lastGuarded_39 ?_
      refine ag_5 F hK hR (by omega) (by omega) (hac) (by omega) (by omega) fl_X4_35 dX4_lastGuarded_40 ?_
      refine lv_eq (hg.2.2) ?_
      refine va_mmin hx hb (hml.trans hl.1.symm) F.2.2.1 (F.2.2.2 _ ml_X4_37) (F.2.2.2 _ st_Lib_Math_min_name) (F.2.2.2 _ in_Math) (F.2.2.2 _ co_Lib_Math_min_name) (Nat.le_of_ble_eq_true rfl) (Nat.le_of_ble_eq_true rfl) (Nat.zero_le _) (Nat.zero_le _) dX4_lastGuarded_43 ?_
      refine lv_eq (min_v (by omega) hb1) ?_
      refine lv_istore_n (lv' := [(2, .int (nI (Nat.min lb (lgN (S 11) (4 * x + q) j)))), (3, .int (nI j)), (0, .ref (adr (nk x (6 + q)))), (1, .int (nI len))]) hx hb dX4_lastGuarded_46 rfl hl (by decide) rfl (fun ls hl => ?_)
      refine lv_iinc (v := nI (j + 1)) (lv' := [(3, .int (nI (j + 1))), (2, .int (nI (Nat.min lb (lgN (S 11) (4 * x + q) j)))), (0, .ref (adr (nk x (6 + q)))), (1, .int (nI len))]) hx hb dX4_lastGuarded_47 hl (k := 1) rfl (nI_add _ _) (by decide) rfl (fun ls hl => ?_)
      refine lv_goto (tgt := 9) hx hb dX4_lastGuarded_50 (by decide) ?_
      have hv2 : nI (Nat.min lb (lgN (S 11) (4 * x + q) j)) = nI (lgB (S 11) (4 * x + q) (lgT (S 11) (4 * x + q) ac) ac (ac + len) (j + 1)) := by
        rw [lgB, if_pos (by rw [lgT_lt ac j (by omega)]; exact ⟨hg.1, hg.2.1⟩), ← hlb, lgT_lt ac j (by omega)]
      have hl2 : lv_has ls 4 [(3, .int (nI (j + 1))), (2, .int (nI (lgB (S 11) (4 * x + q) (lgT (S 11) (4 * x + q) ac) ac (ac + len) (j + 1)))), (0, .ref (adr (nk x (6 + q)))), (1, .int (nI len))] := by rw [← hv2]; exact lv_sub hl [0, 1, 2, 3] rfl
      exact ih _ _ _ (j + 1) (by omega) _ rfl hl2 hR (by omega)
