/-! THE CLASS, 8: the machine whole; the methods of the face that need no new cell -/
theorem cm_all (l : Launch) (G : gw_G) (A : Nat → Prop) (adr : Nat → Nat) (n : Nat) (L : Int64) : ∀ k, cmAll l G A adr n L k := by
  intro k
  induction k with
  | zero =>
    refine ⟨?_, ?_, ?_, ?_, ?_, ?_, ?_⟩
    · intro S Y x d _ _ _ _ h; exact absurd h (by omega)
    · intro S Y x d _ _ _ _ h; exact absurd h (by omega)
    · intro S Y x lv d _ _ _ _ _ h; exact absurd h (by omega)
    · intro S Y x q d _ _ _ _ h8 h; exact absurd h (by omega)
    · intro S Y x q i d _ _ _ _ _ _ h; exact absurd h (by omega)
    · intro S Y x q i d _ _ _ _ _ _ h; exact absurd h (by omega)
    · intro S Y x q d _ _ _ _ _ h; exact absurd h (by omega)
  | succ k ih => exact ⟨st_want ih, st_start ih, st_lookThrough ih, st_work ih, st_begin ih, st_perform ih, st_enter ih⟩
section GRA
variable {p : Program} {l : Launch} {e : Env} {R : Room} {s : State} {m : MethodId} {args : Array Value} {below : List Frame} {meth : Method} {c : Code} {H : Heap} {locs : List Loc} {cells slots : Nat}
variable {cc : ByteArray} {pc : Nat} {ls : Array Slot} {G : gw_G} {A : Nat → Prop} {adr : Nat → Nat} {cel cel' : Nat → Option va_E} {own : String}
theorem gr_a {v v' : Value} {C : String} (F : gw_F p m c cc s args own) (hr : meth.sig.returnType = some (.object C)) (hlocks : meth.locks = false) (hK : gw_K G s) (hB : gw_B G A adr cel s.heap H locs) (hdg : decode cc pc = .ok (.areturn, 1)) (hz : v = .null ∨ ∃ a, v = .ref a) (hv : v = v') (hc : cel = cel') : W p l e R s m args below meth c H locs cells slots (MQ below (gQ A (gW G A adr cel') (some v')) args s cells slots A) (F0 m pc ls [v]) := by
  subst hv; subst hc
  exact W.aret F.1 F.2.1 hr (Or.inl ⟨_, rfl⟩) hz (fun t ht hW => ⟨⟨rfl, by rw [ht]; exact hB.1, hB.2.1, gw_K.moved hW.alike hK⟩, hB.2.2.F ht⟩) hB.2.2.2.2 hdg (hlocks := hlocks)
end GRA
theorem sw_raw (x : Int32) (n : Nat) (hn : n < 2 ^ 31 := by decide) : (∃ j, j < n ∧ x = nI j) ∨ ((x.toInt < 0 ∨ ((n : Int) - 1) < x.toInt) ∧ ∀ j, j < n → ¬ x = nI j) := by
  rcases pk_ix x (n := n) hn with q | q | ⟨j, q1, q2⟩
  · refine Or.inr ⟨Or.inl ?_, fun j hj e => ?_⟩
    · rw [Int32.lt_iff_toInt_lt] at q
      exact q
    · rw [e] at q
      exact nI_pos (by omega) q
  · refine Or.inr ⟨Or.inr ?_, fun j hj e => ?_⟩
    · rw [Int32.le_iff_toInt_le, nI_toInt hn] at q
      omega
    · rw [e] at q
      exact nI_ge hj (by omega) q
  · exact Or.inl ⟨j, q1, q2⟩
def exY (Y : Nat → Nat → Int32) : Nat → Nat → Int32 := m2 (m2 Y 0 0 (-1)) 1 0 (-1)
def ex1 (S Y : Nat → Nat → Int32) (x : Nat) : Int32 × cST := ev 530 0 x 0 0 0 (rf_runS S, exY Y)
def ex2 (S Y : Nat → Nat → Int32) (x q : Nat) : Int32 × cST := if (ex1 S Y x).1 = -1 then ev 530 3 x q 0 0 (ex1 S Y x).2 else ex1 S Y x
theorem run_sta {S : Nat → Nat → Int32} : sta S (rf_runS S) := fun k h => by
  unfold rf_runS
  rw [m2_ne (by omega), m2_ne (by omega), m2_ne (by omega), m2_ne (by omega)]
theorem run_dI {n : Nat} {S : Nat → Nat → Int32} (h : dI n S) : dI n (rf_runS S) := by
  unfold rf_runS
  refine ⟨⟨0, by omega, ?_⟩, ⟨0, by omega, ?_⟩, fun x hx => ?_, fun x hx => ?_⟩
  · rw [m2_nk (by decide), m2_nk (by decide), m2_nk (by decide), m2_at]
  · rw [m2_nk (by decide), m2_at]
  · rw [m2_nk (by decide), m2_nk (by decide), m2_nk (by decide), m2_nk (by decide)]; exact h.2.2.1 x hx
  · rw [m2_nk (by decide), m2_nk (by decide), m2_nk (by decide), m2_nk (by decide)]; exact h.2.2.2 x hx
set_option maxHeartbeats 4000000 in
set_option maxRecDepth 100000 in
/-- Machine.execute(kind, method) -/
theorem c_X3_execute (l : Launch) (G : gw_G) (A : Nat → Prop) (adr : Nat → Nat) (n : Nat) (S Y : Nat → Nat → Int32) (L : Int64) (x q : Nat) (hs : sI n S) (hd : dI n S) (hxn : x < n) (hq : q < 4) : gm l yX3_execute cX3_execute 4 (some .int) (rmL 534) 0 0 A [.ref (adr 2), .ref (adr (nk x 0)), .int (nI q)] (gW G A adr (ccel G adr n S Y L)) (gW G A adr (ccel G adr n ((ex2 S Y x q).2.1) (m2 (ex2 S Y x q).2.2 0 0 (ex2 S Y x q).1) L)) (some (.int ((ex2 S Y x q).1))) := by
  refine gm_of (own := RX3) (by decide) rfl (Nat.le_of_ble_eq_true rfl) ?_
  intro p e s m below meth c ls F hml hr hlk hnm hK hR hl
  have hx := F.1
  have hb := F.2.1
  replace hl : lv_has ls 4 [(0, .ref (adr 2)), (1, .ref (adr (nk x 0))), (2, .int (nI q))] := hl
  have hn12 := hs.1
  refine lv_aload_n hx hb dX3_execute_0 rfl (lv_at hl 0 rfl) ?_
  refine ng_0 F hK hR fl_X3_12 dX3_execute_1 ?_
  refine gcVv (As := []) F hK hR hml cv_X3_18 (o := 3) (rfl) rfl rfl (c_X1_clear l G A adr n S Y L) ⟨rfl, rfl⟩ ⟨by dsimp only [rmL]; omega, by dsimp only [rmL]; omega⟩ rfl rfl hl.1 (Nat.le_of_ble_eq_true rfl) dX3_execute_4 ⟨Nat.zero_le _, Nat.zero_le _⟩ (fun H locs hR => ?_)
  refine lv_aload_n hx hb dX3_execute_7 rfl (lv_at hl 0 rfl) ?_
  refine lv_aload_n hx hb dX3_execute_8 rfl (lv_at hl 1 rfl) ?_
  refine lv_iconst (v := nI 0) hx hb dX3_execute_9 (by decide) ?_
  refine gcVi (As := [.ref (adr (nk x 0)), .int (nI 0)]) F hK hR hml cv_X3_21 (o := 2) (rfl) rfl rfl ((cm_all l G A adr n L 530).1 (rf_runS S) (exY Y) x 0 (hs.to run_sta) (run_dI hd) hxn (by omega) (by have := cN_n (rf_runS S) n; omega)) ⟨rfl, rfl⟩ ⟨by dsimp only [rmL]; omega, by dsimp only [rmL]; omega⟩ rfl rfl hl.1 (Nat.le_of_ble_eq_true rfl) dX3_execute_10 ⟨Nat.zero_le _, Nat.zero_le _⟩ (fun H locs hR => ?_)
  have g1 := ev_ok n 530 0 x 0 0 0 (rf_runS S, exY Y) (hs.to run_sta) (run_dI hd) hxn (by omega) (fun h => by omega)
  generalize hr1 : ev 530 0 x 0 0 0 (rf_runS S, exY Y) = r1 at g1 hR ⊢
  refine lv_istore_n (lv' := [(3, .int r1.1), (0, .ref (adr 2)), (1, .ref (adr (nk x 0))), (2, .int (nI q))]) hx hb dX3_execute_13 rfl hl (by decide) rfl (fun ls hl => ?_)
  refine lv_iload_n hx hb dX3_execute_14 rfl (lv_at hl 0 rfl) ?_
  refine lv_iconst (v := (-1)) hx hb dX3_execute_15 (by decide) ?_
  refine lv_icmp_ne (tgt := 27) hx hb dX3_execute_16 (by decide) (fun c_16 => ?_) (fun c_16 => ?_)
  · refine lv_aload_n hx hb dX3_execute_27 rfl (lv_at hl 1 rfl) ?_
    refine ng_0 F hK hR fl_X3_12 dX3_execute_28 ?_
    refine lv_iload_n hx hb dX3_execute_31 rfl (lv_at hl 0 rfl) ?_
    refine jp_6 F hK hR fl_X3_29 dX3_execute_32 (fun H locs hR => ?_)
    refine lv_iload_n hx hb dX3_execute_35 rfl (lv_at hl 0 rfl) ?_
    exact gr_i F hr hlk hK hR dX3_execute_36 (by rw [ex2, ex1, hr1, if_neg c_16]) (by rw [ex2, ex1, hr1, if_neg c_16])
  · refine lv_aload_n hx hb dX3_execute_19 rfl (lv_at hl 1 rfl) ?_
    refine lv_aload_n hx hb dX3_execute_20 rfl (lv_at hl 2 rfl) ?_
    refine lv_iload_n hx hb dX3_execute_21 rfl (lv_at hl 3 rfl) ?_
    refine lv_iconst (v := nI 0) hx hb dX3_execute_22 (by decide) ?_
    refine gcVi (As := [.ref (adr (nk x 0)), .int (nI q), .int (nI 0)]) F hK hR hml cv_X3_25 (o := 2) (rfl) rfl rfl ((cm_all l G A adr n L 530).2.2.2.1 r1.2.1 r1.2.2 x q 0 ((hs.to run_sta).to g1.1) g1.2.2.1 hxn hq (by omega) (by have := cN_n r1.2.1 n; omega)) ⟨rfl, rfl⟩ ⟨by dsimp only [rmL]; omega, by dsimp only [rmL]; omega⟩ rfl rfl hl.1 (Nat.le_of_ble_eq_true rfl) dX3_execute_23 ⟨Nat.zero_le _, Nat.zero_le _⟩ (fun H locs hR => ?_)
    generalize hr2 : ev 530 3 x q 0 0 r1.2 = r2 at hR ⊢
    refine lv_istore_n (lv' := [(3, .int r2.1), (0, .ref (adr 2)), (1, .ref (adr (nk x 0))), (2, .int (nI q))]) hx hb dX3_execute_26 rfl hl (by decide) rfl (fun ls hl => ?_)
    refine lv_aload_n hx hb dX3_execute_27 rfl (lv_at hl 1 rfl) ?_
    refine ng_0 F hK hR fl_X3_12 dX3_execute_28 ?_
    refine lv_iload_n hx hb dX3_execute_31 rfl (lv_at hl 0 rfl) ?_
    refine jp_6 F hK hR fl_X3_29 dX3_execute_32 (fun H locs hR => ?_)
    refine lv_iload_n hx hb dX3_execute_35 rfl (lv_at hl 0 rfl) ?_
    exact gr_i F hr hlk hK hR dX3_execute_36 (by rw [ex2, ex1, hr1, if_pos c_16, hr2]) (by rw [ex2, ex1, hr1, if_pos c_16, hr2])
theorem has_no2 {M x : Int32} {n : Nat} (hM : M = nI n) (hn : n ≤ 12) (h : sp_has M x = 0) : x < 0 ∨ M ≤ x := by
  by_cases h1 : x < 0
  · exact Or.inl h1
  · by_cases h2 : M ≤ x
    · exact Or.inr h2
    · unfold sp_has at h
      rw [if_neg h1, if_neg h2] at h
      exact absurd h (by decide)
theorem has_nI {M : Int32} {n j : Nat} (hM : M = nI n) (hn : n ≤ 12) (hj : j < n) : ¬ sp_has M (nI j) = 0 := by
  subst hM
  unfold sp_has
  rw [if_neg (nI_pos (by omega)), if_neg (nI_ge hj (by omega))]
  decide
set_option maxHeartbeats 4000000 in
set_option maxRecDepth 100000 in
/-- find: one that is there -/
theorem c_X6_findY (l : Launch) (G : gw_G) (A : Nat → Prop) (adr : Nat → Nat) (n : Nat) (S Y : Nat → Nat → Int32) (L : Int64) (x : Nat) (hn0 : S 0 0 = nI n) (hn12 : n ≤ 12) (hxn : x < n) : gm l yX6_find cX6_find 2 (some (.object "ClassStarts$Kind")) (rmL 0) 0 0 A [.ref (adr 0), .int (nI x)] (gW G A adr (ccel G adr n S Y L)) (gW G A adr (ccel G adr n S Y L)) (some (.ref (adr (nk x 0)))) := by
  refine gm_of (own := RX6) (by decide) rfl (Nat.le_of_ble_eq_true rfl) ?_
  intro p e s m below meth c ls F hml hr hlk hnm hK hR hl
  have hx := F.1
  have hb := F.2.1
  replace hl : lv_has ls 2 [(0, .ref (adr 0)), (1, .int (nI x))] := hl
  refine lv_iload_n hx hb dX6_find_0 rfl (lv_at hl 1 rfl) ?_
  refine nv_if_lt (by omega) hx hb dX6_find_1 (tgt := 21) (by decide) ?_
  refine lv_iload_n hx hb dX6_find_4 rfl (lv_at hl 1 rfl) ?_
  refine lv_aload_n hx hb dX6_find_5 rfl (lv_at hl 0 rfl) ?_
  refine og_1 F hK hR fl_X6_15 dX6_find_6 ?_
  refine lv_eq (hn0) ?_
  refine nv_icmp_ge (by omega) (by omega) hx hb dX6_find_9 (tgt := 21) (by decide) (fun c_9 => absurd c_9 (by omega)) (fun c_9 => ?_)
  refine lv_aload_n hx hb dX6_find_12 rfl (lv_at hl 0 rfl) ?_
  refine og_0 F hK hR fl_X6_11 dX6_find_13 ?_
  refine lv_iload_n hx hb dX6_find_16 rfl (lv_at hl 1 rfl) ?_
  refine kd_ld F hK hR (by omega) (by omega) dX6_find_17 ?_
  refine lv_goto (tgt := 22) hx hb dX6_find_18 (by decide) ?_
  exact gr_a F hr hlk hK hR dX6_find_22 (Or.inr ⟨_, rfl⟩) rfl rfl
set_option maxHeartbeats 4000000 in
set_option maxRecDepth 100000 in
/-- find: none -/
theorem c_X6_findN (l : Launch) (G : gw_G) (A : Nat → Prop) (adr : Nat → Nat) (n : Nat) (S Y : Nat → Nat → Int32) (L : Int64) (x0 : Int32) (hn0 : S 0 0 = nI n) (hn12 : n ≤ 12) (hno : sp_has (S 0 0) x0 = 0) : gm l yX6_find cX6_find 2 (some (.object "ClassStarts$Kind")) (rmL 0) 0 0 A [.ref (adr 0), .int x0] (gW G A adr (ccel G adr n S Y L)) (gW G A adr (ccel G adr n S Y L)) (some (.null)) := by
  refine gm_of (own := RX6) (by decide) rfl (Nat.le_of_ble_eq_true rfl) ?_
  intro p e s m below meth c ls F hml hr hlk hnm hK hR hl
  have hx := F.1
  have hb := F.2.1
  replace hl : lv_has ls 2 [(0, .ref (adr 0)), (1, .int x0)] := hl
  refine lv_iload_n hx hb dX6_find_0 rfl (lv_at hl 1 rfl) ?_
  refine lv_if_lt (tgt := 21) hx hb dX6_find_1 (by decide) (fun c_1 => ?_) (fun c_1 => ?_)
  · have n_1 := Int32.not_le.mpr c_1
    refine lv_null hx hb dX6_find_21 ?_
    exact gr_a F hr hlk hK hR dX6_find_22 (Or.inl rfl) rfl rfl
  · have n_1 := Int32.not_lt.mp c_1
    refine lv_iload_n hx hb dX6_find_4 rfl (lv_at hl 1 rfl) ?_
    refine lv_aload_n hx hb dX6_find_5 rfl (lv_at hl 0 rfl) ?_
    refine og_1 F hK hR fl_X6_15 dX6_find_6 ?_
    refine lv_icmp_ge (tgt := 21) hx hb dX6_find_9 (by decide) (fun c_9 => ?_) (fun c_9 => absurd ((has_no2 hn0 hn12 hno).resolve_left c_1) c_9)
    refine lv_null hx hb dX6_find_21 ?_
    exact gr_a F hr hlk hK hR dX6_find_22 (Or.inl rfl) rfl rfl
set_option maxHeartbeats 4000000 in
set_option maxRecDepth 100000 in
/-- state(x) -/
theorem c_X6_state (l : Launch) (G : gw_G) (A : Nat → Prop) (adr : Nat → Nat) (n : Nat) (S Y : Nat → Nat → Int32) (L : Int64) (x0 : Int32) (hn0 : S 0 0 = nI n) (hn12 : n ≤ 12) : gm l yX6_state cX6_state 3 (some .int) (rmL 1) 0 0 A [.ref (adr 0), .int x0] (gW G A adr (ccel G adr n S Y L)) (gW G A adr (ccel G adr n S Y L)) (some (.int (sp_state S x0))) := by
  refine gm_of (own := RX6) (by decide) rfl (Nat.le_of_ble_eq_true rfl) ?_
  intro p e s m below meth c ls F hml hr hlk hnm hK hR hl
  have hx := F.1
  have hb := F.2.1
  replace hl : lv_has ls 3 [(0, .ref (adr 0)), (1, .int x0)] := hl
  by_cases hh_x : sp_has (S 0 0) x0 = 0
  · skip
    refine lv_aload_n hx hb dX6_state_0 rfl (lv_at hl 0 rfl) ?_
    refine lv_iload_n hx hb dX6_state_1 rfl (lv_at hl 1 rfl) ?_
    refine gcV (As := [.int x0]) F hK hR hml cv_X6_33 (o := 0) (rfl) rfl rfl (c_X6_findN l G A adr n S Y L x0 hn0 hn12 hh_x) ⟨rfl, rfl⟩ ⟨Nat.le_of_ble_eq_true rfl, Nat.le_of_ble_eq_true rfl⟩ rfl rfl hl.1 (Nat.le_of_ble_eq_true rfl) dX6_state_2 ⟨Nat.zero_le _, Nat.zero_le _⟩ (fun H locs hR => ?_)
    refine lv_astore_nN (lv' := [(2, .null), (0, .ref (adr 0)), (1, .int x0)]) hx hb dX6_state_5 rfl hl (by decide) rfl (fun ls hl => ?_)
    refine lv_aload_nN hx hb dX6_state_6 rfl (lv_at hl 0 rfl) ?_
    refine lv_ifnonnullN hx hb dX6_state_7 ?_
    refine lv_bipush (v := (-2)) hx hb dX6_state_10 (by decide) ?_
    refine lv_goto (tgt := 19) hx hb dX6_state_12 (by decide) ?_
    exact gr_i F hr hlk hK hR dX6_state_19 (by rw [sp_state, if_pos hh_x]) (rfl)
  · obtain ⟨x, h_x, rfl⟩ := has_yes hn0 hn12 hh_x
    refine lv_aload_n hx hb dX6_state_0 rfl (lv_at hl 0 rfl) ?_
    refine lv_iload_n hx hb dX6_state_1 rfl (lv_at hl 1 rfl) ?_
    refine gcV (As := [.int (nI x)]) F hK hR hml cv_X6_33 (o := 0) (rfl) rfl rfl (c_X6_findY l G A adr n S Y L x hn0 hn12 (by omega)) ⟨rfl, rfl⟩ ⟨Nat.le_of_ble_eq_true rfl, Nat.le_of_ble_eq_true rfl⟩ rfl rfl hl.1 (Nat.le_of_ble_eq_true rfl) dX6_state_2 ⟨Nat.zero_le _, Nat.zero_le _⟩ (fun H locs hR => ?_)
    refine lv_astore_n (lv' := [(2, .ref (adr (nk x 0))), (0, .ref (adr 0)), (1, .int (nI x))]) hx hb dX6_state_5 rfl hl (by decide) rfl (fun ls hl => ?_)
    refine lv_aload_n hx hb dX6_state_6 rfl (lv_at hl 0 rfl) ?_
    refine lv_ifnonnull (tgt := 15) hx hb dX6_state_7 (by decide) ?_
    refine lv_aload_n hx hb dX6_state_15 rfl (lv_at hl 0 rfl) ?_
    refine kg_11 F hK hR (by omega) fl_X6_52 dX6_state_16 ?_
    exact gr_i F hr hlk hK hR dX6_state_19 (by rw [sp_state, if_neg hh_x, nI_clamp (by omega)]) (rfl)
set_option maxHeartbeats 4000000 in
set_option maxRecDepth 100000 in
/-- row(x) -/
theorem c_X6_row (l : Launch) (G : gw_G) (A : Nat → Prop) (adr : Nat → Nat) (n : Nat) (S Y : Nat → Nat → Int32) (L : Int64) (x0 : Int32) (hn0 : S 0 0 = nI n) (hn12 : n ≤ 12) : gm l yX6_row cX6_row 3 (some .int) (rmL 1) 0 0 A [.ref (adr 0), .int x0] (gW G A adr (ccel G adr n S Y L)) (gW G A adr (ccel G adr n S Y L)) (some (.int (sp_row S x0))) := by
  refine gm_of (own := RX6) (by decide) rfl (Nat.le_of_ble_eq_true rfl) ?_
  intro p e s m below meth c ls F hml hr hlk hnm hK hR hl
  have hx := F.1
  have hb := F.2.1
  replace hl : lv_has ls 3 [(0, .ref (adr 0)), (1, .int x0)] := hl
  by_cases hh_x : sp_has (S 0 0) x0 = 0
  · skip
    refine lv_aload_n hx hb dX6_row_0 rfl (lv_at hl 0 rfl) ?_
    refine lv_iload_n hx hb dX6_row_1 rfl (lv_at hl 1 rfl) ?_
    refine gcV (As := [.int x0]) F hK hR hml cv_X6_33 (o := 0) (rfl) rfl rfl (c_X6_findN l G A adr n S Y L x0 hn0 hn12 hh_x) ⟨rfl, rfl⟩ ⟨Nat.le_of_ble_eq_true rfl, Nat.le_of_ble_eq_true rfl⟩ rfl rfl hl.1 (Nat.le_of_ble_eq_true rfl) dX6_row_2 ⟨Nat.zero_le _, Nat.zero_le _⟩ (fun H locs hR => ?_)
    refine lv_astore_nN (lv' := [(2, .null), (0, .ref (adr 0)), (1, .int x0)]) hx hb dX6_row_5 rfl hl (by decide) rfl (fun ls hl => ?_)
    refine lv_aload_nN hx hb dX6_row_6 rfl (lv_at hl 0 rfl) ?_
    refine lv_ifnonnullN hx hb dX6_row_7 ?_
    refine lv_bipush (v := (-2)) hx hb dX6_row_10 (by decide) ?_
    refine lv_goto (tgt := 19) hx hb dX6_row_12 (by decide) ?_
    exact gr_i F hr hlk hK hR dX6_row_19 (by rw [sp_row, if_pos hh_x]) (rfl)
  · obtain ⟨x, h_x, rfl⟩ := has_yes hn0 hn12 hh_x
    refine lv_aload_n hx hb dX6_row_0 rfl (lv_at hl 0 rfl) ?_
    refine lv_iload_n hx hb dX6_row_1 rfl (lv_at hl 1 rfl) ?_
    refine gcV (As := [.int (nI x)]) F hK hR hml cv_X6_33 (o := 0) (rfl) rfl rfl (c_X6_findY l G A adr n S Y L x hn0 hn12 (by omega)) ⟨rfl, rfl⟩ ⟨Nat.le_of_ble_eq_true rfl, Nat.le_of_ble_eq_true rfl⟩ rfl rfl hl.1 (Nat.le_of_ble_eq_true rfl) dX6_row_2 ⟨Nat.zero_le _, Nat.zero_le _⟩ (fun H locs hR => ?_)
    refine lv_astore_n (lv' := [(2, .ref (adr (nk x 0))), (0, .ref (adr 0)), (1, .int (nI x))]) hx hb dX6_row_5 rfl hl (by decide) rfl (fun ls hl => ?_)
    refine lv_aload_n hx hb dX6_row_6 rfl (lv_at hl 0 rfl) ?_
    refine lv_ifnonnull (tgt := 15) hx hb dX6_row_7 (by decide) ?_
    refine lv_aload_n hx hb dX6_row_15 rfl (lv_at hl 0 rfl) ?_
    refine kg_9 F hK hR (by omega) fl_X6_134 dX6_row_16 ?_
    exact gr_i F hr hlk hK hR dX6_row_19 (by rw [sp_row, if_neg hh_x, nI_clamp (by omega)]) (rfl)
set_option maxHeartbeats 4000000 in
set_option maxRecDepth 100000 in
/-- field(x, f) -/
theorem c_X6_field (l : Launch) (G : gw_G) (A : Nat → Prop) (adr : Nat → Nat) (n : Nat) (S Y : Nat → Nat → Int32) (L : Int64) (x0 x1 : Int32) (hn0 : S 0 0 = nI n) (hn12 : n ≤ 12) : gm l yX6_field cX6_field 4 (some .int) (rmL 2) 0 0 A [.ref (adr 0), .int x0, .int x1] (gW G A adr (ccel G adr n S Y L)) (gW G A adr (ccel G adr n S Y L)) (some (.int (sp_field S x0 x1))) := by
  refine gm_of (own := RX6) (by decide) rfl (Nat.le_of_ble_eq_true rfl) ?_
  intro p e s m below meth c ls F hml hr hlk hnm hK hR hl
  have hx := F.1
  have hb := F.2.1
  replace hl : lv_has ls 4 [(0, .ref (adr 0)), (1, .int x0), (2, .int x1)] := hl
  by_cases hh_x : sp_has (S 0 0) x0 = 0
  · skip
    refine lv_aload_n hx hb dX6_field_0 rfl (lv_at hl 0 rfl) ?_
    refine lv_iload_n hx hb dX6_field_1 rfl (lv_at hl 1 rfl) ?_
    refine gcV (As := [.int x0]) F hK hR hml cv_X6_33 (o := 0) (rfl) rfl rfl (c_X6_findN l G A adr n S Y L x0 hn0 hn12 hh_x) ⟨rfl, rfl⟩ ⟨Nat.le_of_ble_eq_true rfl, Nat.le_of_ble_eq_true rfl⟩ rfl rfl hl.1 (Nat.le_of_ble_eq_true rfl) dX6_field_2 ⟨Nat.zero_le _, Nat.zero_le _⟩ (fun H locs hR => ?_)
    refine lv_astore_nN (lv' := [(3, .null), (0, .ref (adr 0)), (1, .int x0), (2, .int x1)]) hx hb dX6_field_5 rfl hl (by decide) rfl (fun ls hl => ?_)
    refine lv_aload_nN hx hb dX6_field_6 rfl (lv_at hl 0 rfl) ?_
    refine lv_ifnonnullN hx hb dX6_field_7 ?_
    refine lv_iconst (v := nI 0) hx hb dX6_field_10 (by decide) ?_
    refine lv_goto (tgt := 19) hx hb dX6_field_11 (by decide) ?_
    exact gr_i F hr hlk hK hR dX6_field_19 (by rw [sp_field, if_pos hh_x]) (rfl)
  · obtain ⟨x, h_x, rfl⟩ := has_yes hn0 hn12 hh_x
    refine lv_aload_n hx hb dX6_field_0 rfl (lv_at hl 0 rfl) ?_
    refine lv_iload_n hx hb dX6_field_1 rfl (lv_at hl 1 rfl) ?_
    refine gcV (As := [.int (nI x)]) F hK hR hml cv_X6_33 (o := 0) (rfl) rfl rfl (c_X6_findY l G A adr n S Y L x hn0 hn12 (by omega)) ⟨rfl, rfl⟩ ⟨Nat.le_of_ble_eq_true rfl, Nat.le_of_ble_eq_true rfl⟩ rfl rfl hl.1 (Nat.le_of_ble_eq_true rfl) dX6_field_2 ⟨Nat.zero_le _, Nat.zero_le _⟩ (fun H locs hR => ?_)
    refine lv_astore_n (lv' := [(3, .ref (adr (nk x 0))), (0, .ref (adr 0)), (1, .int (nI x)), (2, .int x1)]) hx hb dX6_field_5 rfl hl (by decide) rfl (fun ls hl => ?_)
    refine lv_aload_n hx hb dX6_field_6 rfl (lv_at hl 0 rfl) ?_
    refine lv_ifnonnull (tgt := 14) hx hb dX6_field_7 (by decide) ?_
    refine lv_aload_n hx hb dX6_field_14 rfl (lv_at hl 0 rfl) ?_
    refine lv_iload_n hx hb dX6_field_15 rfl (lv_at hl 3 rfl) ?_
    refine gcVi (As := [.int x1]) F hK hR hml cv_X6_130 (o := nk x 0) (ccel_k (by omega) (by decide)) rfl rfl (c_X2_valueOfR l G A adr n S Y L x x1 (by omega)) ⟨rfl, rfl⟩ ⟨Nat.le_of_ble_eq_true rfl, Nat.le_of_ble_eq_true rfl⟩ rfl rfl hl.1 (Nat.le_of_ble_eq_true rfl) dX6_field_16 ⟨Nat.zero_le _, Nat.zero_le _⟩ (fun H locs hR => ?_)
    exact gr_i F hr hlk hK hR dX6_field_19 (by rw [sp_field, if_neg hh_x, nI_clamp (n := x) (by omega)]) (rfl)
theorem hasI_n {S : Nat → Nat → Int32} {x : Nat} {i : Int32} (h : sp_hasI S x i = 0) : i < 0 ∨ S 8 x - nI 1 ≤ i := by
  by_cases h1 : i < 0
  · exact Or.inl h1
  · by_cases h2 : S 8 x - nI 1 ≤ i
    · exact Or.inr h2
    · unfold sp_hasI at h
      rw [if_neg h1, if_neg h2] at h
      exact absurd h (by decide)
theorem item_n {S : Nat → Nat → Int32} {x : Nat} {i : Int32} (hh : ¬ sp_has (S 0 0) (nI x) = 0) (hx : x < 12) (h : sp_hasI S x i = 0) : nI 0 = sp_item S (nI x) i := by
  rw [sp_item, if_neg hh, nI_clamp (by omega)]
  by_cases h1 : i < 0
  · rw [if_pos h1]
  · rw [if_neg h1, if_pos ((hasI_n h).resolve_left h1)]
set_option maxHeartbeats 4000000 in
set_option maxRecDepth 100000 in
/-- item(x, i) -/
theorem c_X6_item (l : Launch) (G : gw_G) (A : Nat → Prop) (adr : Nat → Nat) (n : Nat) (S Y : Nat → Nat → Int32) (L : Int64) (x0 x1 : Int32) (hn0 : S 0 0 = nI n) (hn12 : n ≤ 12) (hrow : ∀ x, x < 12 → ∃ r, r ≤ 21 ∧ S 8 x = nI r) : gm l yX6_item cX6_item 4 (some .int) (rmL 1) 0 0 A [.ref (adr 0), .int x0, .int x1] (gW G A adr (ccel G adr n S Y L)) (gW G A adr (ccel G adr n S Y L)) (some (.int (sp_item S x0 x1))) := by
  refine gm_of (own := RX6) (by decide) rfl (Nat.le_of_ble_eq_true rfl) ?_
  intro p e s m below meth c ls F hml hr hlk hnm hK hR hl
  have hx := F.1
  have hb := F.2.1
  replace hl : lv_has ls 4 [(0, .ref (adr 0)), (1, .int x0), (2, .int x1)] := hl
  by_cases hh_x : sp_has (S 0 0) x0 = 0
  · skip
    refine lv_aload_n hx hb dX6_item_0 rfl (lv_at hl 0 rfl) ?_
    refine lv_iload_n hx hb dX6_item_1 rfl (lv_at hl 1 rfl) ?_
    refine gcV (As := [.int x0]) F hK hR hml cv_X6_33 (o := 0) (rfl) rfl rfl (c_X6_findN l G A adr n S Y L x0 hn0 hn12 hh_x) ⟨rfl, rfl⟩ ⟨Nat.le_of_ble_eq_true rfl, Nat.le_of_ble_eq_true rfl⟩ rfl rfl hl.1 (Nat.le_of_ble_eq_true rfl) dX6_item_2 ⟨Nat.zero_le _, Nat.zero_le _⟩ (fun H locs hR => ?_)
    refine lv_astore_nN (lv' := [(3, .null), (0, .ref (adr 0)), (1, .int x0), (2, .int x1)]) hx hb dX6_item_5 rfl hl (by decide) rfl (fun ls hl => ?_)
    refine lv_aload_nN hx hb dX6_item_6 rfl (lv_at hl 0 rfl) ?_
    refine lv_ifnullN (tgt := 18) hx hb dX6_item_7 (by decide) ?_
    refine lv_iconst (v := nI 0) hx hb dX6_item_18 (by decide) ?_
    refine lv_goto (tgt := 28) hx hb dX6_item_19 (by decide) ?_
    exact gr_i F hr hlk hK hR dX6_item_28 (by rw [sp_item, if_pos hh_x]) (rfl)
  · obtain ⟨x, h_x, rfl⟩ := has_yes hn0 hn12 hh_x
    refine lv_aload_n hx hb dX6_item_0 rfl (lv_at hl 0 rfl) ?_
    refine lv_iload_n hx hb dX6_item_1 rfl (lv_at hl 1 rfl) ?_
    refine gcV (As := [.int (nI x)]) F hK hR hml cv_X6_33 (o := 0) (rfl) rfl rfl (c_X6_findY l G A adr n S Y L x hn0 hn12 (by omega)) ⟨rfl, rfl⟩ ⟨Nat.le_of_ble_eq_true rfl, Nat.le_of_ble_eq_true rfl⟩ rfl rfl hl.1 (Nat.le_of_ble_eq_true rfl) dX6_item_2 ⟨Nat.zero_le _, Nat.zero_le _⟩ (fun H locs hR => ?_)
    refine lv_astore_n (lv' := [(3, .ref (adr (nk x 0))), (0, .ref (adr 0)), (1, .int (nI x)), (2, .int x1)]) hx hb dX6_item_5 rfl hl (by decide) rfl (fun ls hl => ?_)
    refine lv_aload_n hx hb dX6_item_6 rfl (lv_at hl 0 rfl) ?_
    refine lv_ifnull hx hb dX6_item_7 ?_
    refine lv_aload_n hx hb dX6_item_10 rfl (lv_at hl 0 rfl) ?_
    refine lv_iload_n hx hb dX6_item_11 rfl (lv_at hl 3 rfl) ?_
    refine gcVi (As := [.int x1]) F hK hR hml cv_X6_137 (o := nk x 0) (ccel_k (by omega) (by decide)) rfl rfl (c_X2_hasItem l G A adr n S Y L x x1 (by omega)) ⟨rfl, rfl⟩ ⟨Nat.le_of_ble_eq_true rfl, Nat.le_of_ble_eq_true rfl⟩ rfl rfl hl.1 (Nat.le_of_ble_eq_true rfl) dX6_item_12 ⟨Nat.zero_le _, Nat.zero_le _⟩ (fun H locs hR => ?_)
    refine lv_if_ne (tgt := 22) hx hb dX6_item_15 (by decide) (fun c_15 => ?_) (fun c_15 => ?_)
    · obtain ⟨r, q1, q2⟩ := hrow x (by omega)
      obtain ⟨⟨j, hj, rfl⟩, g1, g2, g3⟩ := hasI_yes q2 q1 c_15
      refine lv_aload_n hx hb dX6_item_22 rfl (lv_at hl 0 rfl) ?_
      refine kg_8 F hK hR (by omega) fl_X6_140 dX6_item_23 ?_
      refine lv_iload_n hx hb dX6_item_26 rfl (lv_at hl 3 rfl) ?_
      refine rw_ld F hK hR (by omega) (by omega) dX6_item_27 ?_
      exact gr_i F hr hlk hK hR dX6_item_28 (by rw [sp_item, if_neg hh_x, nI_clamp (n := x) (by omega), if_neg g2, if_neg g3, nI_clamp (by omega)]) (rfl)
    · refine lv_iconst (v := nI 0) hx hb dX6_item_18 (by decide) ?_
      refine lv_goto (tgt := 28) hx hb dX6_item_19 (by decide) ?_
      exact gr_i F hr hlk hK hR dX6_item_28 (item_n hh_x (by omega) c_15) (rfl)
set_option maxHeartbeats 4000000 in
set_option maxRecDepth 100000 in
/-- cause() -/
theorem c_X6_cause (l : Launch) (G : gw_G) (A : Nat → Prop) (adr : Nat → Nat) (n : Nat) (S Y : Nat → Nat → Int32) (L : Int64)   : gm l yX6_cause cX6_cause 2 (some .int) (rmL 0) 0 0 A [.ref (adr 0)] (gW G A adr (ccel G adr n S Y L)) (gW G A adr (ccel G adr n S Y L)) (some (.int (if Y 0 0 = nI 7 then Y 1 0 else -1))) := by
  refine gm_of (own := RX6) (by decide) rfl (Nat.le_of_ble_eq_true rfl) ?_
  intro p e s m below meth c ls F hml hr hlk hnm hK hR hl
  have hx := F.1
  have hb := F.2.1
  replace hl : lv_has ls 2 [(0, .ref (adr 0))] := hl
  refine lv_aload_n hx hb dX6_cause_0 rfl (lv_at hl 0 rfl) ?_
  refine og_2 F hK hR fl_X6_22 dX6_cause_1 ?_
  refine ng_0 F hK hR fl_X6_99 dX6_cause_4 ?_
  refine lv_astore_n (lv' := [(1, .ref (adr 3)), (0, .ref (adr 0))]) hx hb dX6_cause_7 rfl hl (by decide) rfl (fun ls hl => ?_)
  refine lv_aload_n hx hb dX6_cause_8 rfl (lv_at hl 0 rfl) ?_
  refine jg_6 F hK hR fl_X6_103 dX6_cause_9 ?_
  refine lv_bipush (v := nI 7) hx hb dX6_cause_12 (by decide) ?_
  refine lv_icmp_ne (tgt := 24) hx hb dX6_cause_14 (by decide) (fun c_14 => ?_) (fun c_14 => ?_)
  · refine lv_iconst (v := (-1)) hx hb dX6_cause_24 (by decide) ?_
    exact gr_i F hr hlk hK hR dX6_cause_25 (by rw [if_neg c_14]) (rfl)
  · refine lv_aload_n hx hb dX6_cause_17 rfl (lv_at hl 0 rfl) ?_
    refine jg_7 F hK hR fl_X6_108 dX6_cause_18 ?_
    refine lv_goto (tgt := 25) hx hb dX6_cause_21 (by decide) ?_
    exact gr_i F hr hlk hK hR dX6_cause_25 (by rw [if_pos c_14]) (rfl)
set_option maxHeartbeats 4000000 in
set_option maxRecDepth 100000 in
/-- count(what) -/
theorem c_X6_count (l : Launch) (G : gw_G) (A : Nat → Prop) (adr : Nat → Nat) (n : Nat) (S Y : Nat → Nat → Int32) (L : Int64) (x0 : Int32)  : gm l yX6_count cX6_count 3 (some .int) (rmL 0) 0 0 A [.ref (adr 0), .int x0] (gW G A adr (ccel G adr n S Y L)) (gW G A adr (ccel G adr n S Y L)) (some (.int (sp_count S x0))) := by
  refine gm_of (own := RX6) (by decide) rfl (Nat.le_of_ble_eq_true rfl) ?_
  intro p e s m below meth c ls F hml hr hlk hnm hK hR hl
  have hx := F.1
  have hb := F.2.1
  replace hl : lv_has ls 3 [(0, .ref (adr 0)), (1, .int x0)] := hl
  refine lv_aload_n hx hb dX6_count_0 rfl (lv_at hl 0 rfl) ?_
  refine og_2 F hK hR fl_X6_22 dX6_count_1 ?_
  refine ng_0 F hK hR fl_X6_99 dX6_count_4 ?_
  refine lv_astore_n (lv' := [(2, .ref (adr 3)), (0, .ref (adr 0)), (1, .int x0)]) hx hb dX6_count_7 rfl hl (by decide) rfl (fun ls hl => ?_)
  refine lv_iload_n hx hb dX6_count_8 rfl (lv_at hl 2 rfl) ?_
  rcases sw_raw x0 4 with ⟨sw, hsw, esw⟩ | hsw
  · subst esw
    rcases (by omega : sw = 0 ∨ sw = 1 ∨ sw = 2 ∨ sw = 3) with rfl | rfl | rfl | rfl
    · refine lv_tableIn (x := nI 0) (tgt := 40) hx hb dX6_count_9 (by decide) (by decide) (off := 31) (by decide) (by decide) ?_
      refine lv_aload_n hx hb dX6_count_40 rfl (lv_at hl 0 rfl) ?_
      refine jg_2 F hK hR fl_X6_111 dX6_count_41 ?_
      exact gr_i F hr hlk hK hR dX6_count_44 (by unfold sp_count; rw [if_pos (by decide)]) (rfl)
    · refine lv_tableIn (x := nI 1) (tgt := 45) hx hb dX6_count_9 (by decide) (by decide) (off := 36) (by decide) (by decide) ?_
      refine lv_aload_n hx hb dX6_count_45 rfl (lv_at hl 0 rfl) ?_
      refine jg_3 F hK hR fl_X6_114 dX6_count_46 ?_
      exact gr_i F hr hlk hK hR dX6_count_49 (by unfold sp_count; rw [if_neg (by decide)]; rw [if_pos (by decide)]) (rfl)
    · refine lv_tableIn (x := nI 2) (tgt := 50) hx hb dX6_count_9 (by decide) (by decide) (off := 41) (by decide) (by decide) ?_
      refine lv_aload_n hx hb dX6_count_50 rfl (lv_at hl 0 rfl) ?_
      refine jg_4 F hK hR fl_X6_117 dX6_count_51 ?_
      exact gr_i F hr hlk hK hR dX6_count_54 (by unfold sp_count; rw [if_neg (by decide)]; rw [if_neg (by decide)]; rw [if_pos (by decide)]) (rfl)
    · refine lv_tableIn (x := nI 3) (tgt := 55) hx hb dX6_count_9 (by decide) (by decide) (off := 46) (by decide) (by decide) ?_
      refine lv_aload_n hx hb dX6_count_55 rfl (lv_at hl 0 rfl) ?_
      refine jg_5 F hK hR fl_X6_120 dX6_count_56 ?_
      exact gr_i F hr hlk hK hR dX6_count_59 (by unfold sp_count; rw [if_neg (by decide)]; rw [if_neg (by decide)]; rw [if_neg (by decide)]; rw [if_pos (by decide)]) (rfl)
  · refine lv_tableOut (tgt := 60) hx hb dX6_count_9 (hsw.1) (by decide) ?_
    refine lv_bipush (v := (-3)) hx hb dX6_count_60 (by decide) ?_
    exact gr_i F hr hlk hK hR dX6_count_62 (by rw [sp_count, if_neg (show ¬ x0 = 0 from hsw.2 0 (by decide)), if_neg (hsw.2 1 (by decide)), if_neg (hsw.2 2 (by decide)), if_neg (hsw.2 3 (by decide))]) (rfl)
theorem ev_1 {x : Int32} (h0 : ¬ x = nI 0) (h1 : ¬ x = nI 1) : x < 0 ∨ nI 1 < x := by
  by_cases c : x < 0
  · exact Or.inl c
  · refine Or.inr ?_
    obtain ⟨j, hj, rfl⟩ := nI_of c
    refine nI_lt ?_ hj
    rcases j with _ | _ | j
    · exact absurd rfl h0
    · exact absurd rfl h1
    · omega
theorem event_d {S : Nat → Nat → Int32} {i : Int32} {x1 : Int32} (h1 : ¬ i < 0) (h2 : ¬ S 13 0 ≤ i) (h0 : ¬ x1 = nI 0) (h3 : ¬ x1 = nI 1) : nI 0 = sp_event S i x1 := by
  rw [sp_event, if_neg h1, if_neg h2]
  rcases ev_1 h0 h3 with q | q
  · rw [if_pos q]
  · by_cases c : x1 < 0
    · rw [if_pos c]
    · rw [if_neg c, if_pos q]
set_option maxHeartbeats 4000000 in
set_option maxRecDepth 100000 in
/-- event(i, what) -/
theorem c_X6_event (l : Launch) (G : gw_G) (A : Nat → Prop) (adr : Nat → Nat) (n : Nat) (S Y : Nat → Nat → Int32) (L : Int64) (ev : Nat) (x0 x1 : Int32) (hev : S 13 0 = nI ev) (he : ev ≤ 60) : gm l yX6_event cX6_event 4 (some .int) (rmL 0) 0 0 A [.ref (adr 0), .int x0, .int x1] (gW G A adr (ccel G adr n S Y L)) (gW G A adr (ccel G adr n S Y L)) (some (.int (sp_event S x0 x1))) := by
  refine gm_of (own := RX6) (by decide) rfl (Nat.le_of_ble_eq_true rfl) ?_
  intro p e s m below meth c ls F hml hr hlk hnm hK hR hl
  have hx := F.1
  have hb := F.2.1
  replace hl : lv_has ls 4 [(0, .ref (adr 0)), (1, .int x0), (2, .int x1)] := hl
  refine lv_aload_n hx hb dX6_event_0 rfl (lv_at hl 0 rfl) ?_
  refine og_2 F hK hR fl_X6_22 dX6_event_1 ?_
  refine ng_0 F hK hR fl_X6_99 dX6_event_4 ?_
  refine lv_astore_n (lv' := [(3, .ref (adr 3)), (0, .ref (adr 0)), (1, .int x0), (2, .int x1)]) hx hb dX6_event_7 rfl hl (by decide) rfl (fun ls hl => ?_)
  refine lv_iload_n hx hb dX6_event_8 rfl (lv_at hl 2 rfl) ?_
  refine lv_if_lt (tgt := 20) hx hb dX6_event_9 (by decide) (fun c_9 => ?_) (fun c_9 => ?_)
  · have n_9 := Int32.not_le.mpr c_9
    refine lv_iconst (v := nI 0) hx hb dX6_event_20 (by decide) ?_
    exact gr_i F hr hlk hK hR dX6_event_21 (by rw [sp_event, if_pos c_9]) (rfl)
  · have n_9 := Int32.not_lt.mp c_9
    refine lv_iload_n hx hb dX6_event_12 rfl (lv_at hl 2 rfl) ?_
    refine lv_aload_n hx hb dX6_event_13 rfl (lv_at hl 0 rfl) ?_
    refine jg_2 F hK hR fl_X6_111 dX6_event_14 ?_
    refine lv_icmp_lt (tgt := 22) hx hb dX6_event_17 (by decide) (fun c_17 => ?_) (fun c_17 => ?_)
    · have n_17 := Int32.not_le.mpr c_17
      obtain ⟨i, h_i, rfl⟩ := ix_yes hev (by omega) c_9 n_17
      refine lv_iload_n hx hb dX6_event_22 rfl (lv_at hl 3 rfl) ?_
      by_cases l_23_0 : x1 = nI 0
      · subst l_23_0
        refine lv_lookup (x := nI 0) (off := 25) (tgt := 48) hx hb dX6_event_23 (by decide) (by decide) (by decide) ?_
        refine lv_aload_n hx hb dX6_event_48 rfl (lv_at hl 0 rfl) ?_
        refine jg_0 F hK hR fl_X6_123 dX6_event_49 ?_
        refine lv_iload_n hx hb dX6_event_52 rfl (lv_at hl 2 rfl) ?_
        refine so_ld F hK hR (by omega) dX6_event_53 ?_
        exact gr_i F hr hlk hK hR dX6_event_54 (by rw [sp_event, if_neg c_9, if_neg n_17, if_neg (by decide), if_neg (by decide), if_pos (by decide), nI_clamp (by omega)]) (rfl)
      · skip
        by_cases l_23_1 : x1 = nI 1
        · subst l_23_1
          refine lv_lookup (x := nI 1) (off := 32) (tgt := 55) hx hb dX6_event_23 (by decide) (by decide) (by decide) ?_
          refine lv_aload_n hx hb dX6_event_55 rfl (lv_at hl 0 rfl) ?_
          refine jg_1 F hK hR fl_X6_127 dX6_event_56 ?_
          refine lv_iload_n hx hb dX6_event_59 rfl (lv_at hl 2 rfl) ?_
          refine va_ld F hK hR (by omega) dX6_event_60 ?_
          exact gr_i F hr hlk hK hR dX6_event_61 (by rw [sp_event, if_neg c_9, if_neg n_17, if_neg (by decide), if_neg (by decide), if_neg (by decide), nI_clamp (by omega)]) (rfl)
        · skip
          refine lv_lookup (off := 39) (tgt := 62) hx hb dX6_event_23 (by decide) (by show Op.lookupswitch.offset [(0, 25), (1, 32)] 39 _ = _; rw [lv_osw l_23_0 (show (nI 0).toInt = 0 from rfl)]; rw [lv_osw l_23_1 (show (nI 1).toInt = 1 from rfl)]; rfl) (by decide) ?_
          refine lv_iconst (v := nI 0) hx hb dX6_event_62 (by decide) ?_
          exact gr_i F hr hlk hK hR dX6_event_63 (event_d c_9 n_17 l_23_0 l_23_1) (rfl)
    · have n_17 := Int32.not_lt.mp c_17
      refine lv_iconst (v := nI 0) hx hb dX6_event_20 (by decide) ?_
      exact gr_i F hr hlk hK hR dX6_event_21 (by rw [sp_event, if_neg c_9, if_pos n_17]) (rfl)
