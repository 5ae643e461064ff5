/-! THE CLASS, 14: new Method, new Kind -/
theorem lkf_lst_eq (L : List (Nat × va_E)) (j : Nat) (e : va_E) : lkf (lst L j e) j = some e := by
  rw [← lkf_up]; simp [va_up]
theorem lkf_lst_ne (L : List (Nat × va_E)) {i j : Nat} (h : i ≠ j) (e : va_E) : lkf (lst L j e) i = lkf L i := by
  rw [← lkf_up]; simp [va_up, h]
theorem lst_lst (L : List (Nat × va_E)) (j : Nat) (e e2 : va_E) : lst (lst L j e) j e2 = lst L j e2 := by
  induction L with
  | nil => simp [lst]
  | cons h T ih =>
    obtain ⟨i, x⟩ := h
    by_cases c : i = j
    · subst c; simp [lst]
    · simp [lst, c, ih]
section GB2
variable {p : Program} {l : Launch} {e : Env} {R : Room} {s : State} {m : MethodId} {args : Array Value} {below : List Frame} {meth : Method} {c : Code} {H : Heap} {locs : List Loc} {cells slots : Nat} {Q : State → Prop}
variable {cc : ByteArray} {pc : Nat} {ls : Array Slot} {rest : List Value} {G : gw_G} {A : Nat → Prop} {H0 : Heap} {adr : Nat → Nat} {cel : Nat → Option va_E} {own C : String} {b w nL : Nat} {L L' : List (Nat × va_E)} {M : List (Nat × Nat)}
theorem gb_aast (F : gw_F p m c cc s args own) (hK : gw_K G s) (hB : gw_B G A (bN b w M adr) (bC b w L cel) H0 H locs) (j t : Nat) (hj : j < w) {r : vw_C} (ht : (gw_tys G)[t]? = some (G.2 t, .object r.1)) {N : Nat} {f : Nat → Option Nat} (he : lkf L j = some (.inl (G.2 t, N, qr f))) (v ci : Nat) (hvw : v < w) {vs : List Value} (hv : lkf L v = some (.inr (ci, vs))) (hc : vwCl[ci]? = some r) {ra rv k : Nat} (hra : lkn M (fun j => adr (b + j)) j = ra) (hrv : lkn M (fun j => adr (b + j)) v = rv) (hk : k < 2147483648) (hin : k < N) (hN : N < 2147483648) (hL : lst L j (.inl (G.2 t, N, qr (va_up f k (some rv)))) = L') (hdg : decode cc pc = .ok (.aastore, 1))
    (kk : ∀ (H1 : Heap) (locs1 : List Loc), gw_B G A (bN b w M adr) (bC b w L' cel) H0 H1 locs1 → W p l e R s m args below meth c H1 locs1 cells slots Q (F0 m (pc + 1) ls rest)) : W p l e R s m args below meth c H locs cells slots Q (F0 m pc ls (.ref rv :: .int (nI k) :: .ref ra :: rest)) := by
  have e1 : ra = bN b w M adr (b + j) := hra.symm.trans (bl_at hj).symm
  have e2 : rv = bN b w M adr (b + v) := hrv.symm.trans (bl_at hvw).symm
  rw [e1, e2]
  refine gw_aast F hK hB (b + j) t ht ((bl_at hj).trans he) (b + v) ci ((bl_at hvw).trans hv) hc (vp_in_nI hin hN) hdg (fun H1 locs1 h => kk H1 locs1 (gw_B.to h ?_))
  rw [bC_up hj, nI_clamp hk, ← e2, ← hL]
theorem lv_objI (F : gw_F p m c cc s args own) (hml : c.maxLocals = nL) {idx a : Nat} (hlink : Cond.methodLink own idx Lib.objectInit ∈ gwA) (hs : ls.size = nL) (hd : decode cc pc = .ok (.invokespecial idx, 3)) (hfr : 1 ≤ R.frames) (hlo : (rest.map fun v => v.category).sum + 12 ≤ R.locals) (kk : W p l e R s m args below meth c H locs cells slots Q (F0 m (pc + 3) ls rest)) : W p l e R s m args below meth c H locs cells slots Q (F0 m pc ls (.ref a :: rest)) :=
  W.objInit F.1 F.2.1 F.2.2.1 (F.2.2.2 _ hlink) (F.2.2.2 _ im_objectInit) (F.2.2.2 _ co_objectInit) rfl (hs.trans hml.symm) rfl hd hfr (by show 2 * 0 + _ + 12 ≤ _; rw [Nat.mul_zero, Nat.zero_add]; exact hlo) kk
end GB2
set_option maxHeartbeats 4000000 in
/-- new Method(number) -/
theorem c_X4_init (l : Launch) (G : gw_G) (A : Nat → Prop) (adr : Nat → Nat) (cel : Nat → Option va_E) (b w : Nat) (M : List (Nat × Nat)) (L : List (Nat × va_E)) (r j j2 : Nat) (x1 : Int32) (v0 v1 v2 : Value) (hj : j < w) (hj2 : j2 < w) (hne : j ≠ j2) (he : lkf L j = some (.inr (4, [v0, v1, v2]))) (hn : lkf L j2 = none) (hra : lkn M (fun i => adr (b + i)) j = r) : gm l yX4_init cX4_init 2 none (rmA 1 1 10) 1 10 A [.ref r, .int x1] (gWa G A (bN b w M adr) (bC b w L cel)) (fun U => ∃ q, gW G A (bN b w ((j2, q) :: M) adr) (bC b w (lst (lst L j2 (.inl (G.2 2, 10, qr (fun _ => none)))) j (.inr (4, [.int x1, .ref q, .int (nI 0)]))) cel) U) none := by
  refine gm_ofA (own := RX4) (by decide) rfl (Nat.le_of_ble_eq_true rfl) ?_
  intro p e s m below meth c ls F hml hr hlk hnm hK hA hR hl
  have hx := F.1
  have hb := F.2.1
  replace hl : lv_has ls 2 [(0, .ref r), (1, .int x1)] := hl
  refine lv_aload_n hx hb dX4_init_0 rfl (lv_at hl 0 rfl) ?_
  refine W.objInit hx hb F.2.2.1 (F.2.2.2 _ ml_X4_3) (F.2.2.2 _ im_objectInit) (F.2.2.2 _ co_objectInit) rfl (hl.1.trans hml.symm) rfl dX4_init_1 (Nat.le_of_ble_eq_true rfl) (Nat.le_of_ble_eq_true rfl) ?_
  refine lv_aload_n hx hb dX4_init_4 rfl (lv_at hl 0 rfl) ?_
  refine lv_bipush (v := nI 10) hx hb dX4_init_5 (by decide) ?_
  refine gb_newq F hK hA hR j2 2 hj2 hn kl_X4_11 hK.2.1 rfl (N := 10) (by decide) (by decide) (by decide) (Nat.le_of_ble_eq_true rfl) (Nat.le_of_ble_eq_true rfl) rfl dX4_init_7 (fun q H hR => ?_)
  have hra2 : lkn ((j2, q) :: M) (fun i => adr (b + i)) j = r := by rw [lkn, if_neg (Ne.symm hne)]; exact hra
  refine gb_putF F hK hR j hj ((lkf_lst_ne L hne _).trans he) hra2 rfl inX4 tyX4 tyX4_ok nmX4 1 (by decide) fl_X4_13 rfl hnm rfl (ty := tyX4 1) rfl rfl rfl (Nat.le_of_ble_eq_true rfl) rfl dX4_init_10 (fun H locs hR => ?_)
  refine lv_aload_n hx hb dX4_init_13 rfl (lv_at hl 0 rfl) ?_
  refine lv_iconst (v := nI 0) hx hb dX4_init_14 (by decide) ?_
  refine gb_put F hK hR j hj (lkf_lst_eq _ j _) hra2 rfl inX4 tyX4 tyX4_ok nmX4 2 (by decide) fl_X4_17 rfl (ty := tyX4 2) rfl rfl rfl (Nat.le_of_ble_eq_true rfl) (lst_lst _ j _ _) dX4_init_15 (fun H locs hR => ?_)
  refine lv_aload_n hx hb dX4_init_18 rfl (lv_at hl 0 rfl) ?_
  refine lv_iload_n hx hb dX4_init_19 rfl (lv_at hl 1 rfl) ?_
  refine gb_putF F hK hR j hj (lkf_lst_eq _ j _) hra2 rfl inX4 tyX4 tyX4_ok nmX4 0 (by decide) fl_X4_21 rfl hnm rfl (ty := tyX4 0) rfl rfl rfl (Nat.le_of_ble_eq_true rfl) (lst_lst _ j _ _) dX4_init_20 (fun H locs hR => ?_)
  exact gr_vP F hr hlk hK hR dX4_init_23 (fun t ht => ⟨q, ht⟩)
theorem ci_X2_56 : gw_ci RX2 56 yX4_init cX4_init 2 1 := ⟨ml_X2_56, im_X4_init, in_X4, co_X4_init, by decide +kernel⟩
set_option maxHeartbeats 4000000 in
set_option maxRecDepth 100000 in
/-- new Kind(..) -/
theorem c_X2_initN (l : Launch) (G : gw_G) (A : Nat → Prop) (adr : Nat → Nat) (cel : Nat → Option va_E) (b r n : Nat)  (fa de : Int32) (hfa : fa = 0 ∨ fa = 1) (hde : de = 0 ∨ de = 1) : gm l yX2_init cX2_init 6 none (rmA 2 13 87) 13 87 A [.ref (r), .int (nI n), .int fa, .int de, .null] (gWa G A (bN b 60 [(0, r)] adr) (bC b 60 [(0, .inr (2, [.int 0, .int 0, .int 0, .null, .null, .int 0, .null, .null, .null, .int 0, .null, .int 0]))] cel)) (fun U => ∃ q1 q2 q3 q4 q5 q6 q7 q8 q9 q10 q11 q12 q13, gW G A (bN b 60 [(13, q13), (9, q9), (12, q12), (8, q8), (11, q11), (7, q7), (10, q10), (6, q6), (5, q5), (4, q4), (3, q3), (2, q2), (1, q1), (0, r)] adr) (bC b 60 [(0, .inr (2, [.int (nI n), .int fa, .int de, .null, .ref q1, .int (nI 0), .ref q2, .ref q3, .ref q4, .int (-1), .ref q5, .int (nI 0)])), (1, .inl (G.2 3, 3, qr (fun _ => none))), (2, .inl (G.2 0, 4, .inl (fun _ => 0))), (3, .inl (G.2 1, 4, .inl (fun _ => 0))), (4, .inl (G.2 0, 20, .inl (fun _ => 0))), (5, .inl (G.2 4, 4, qr (va_up (va_up (va_up (va_up (fun _ => none) 0 (some q6)) 1 (some q7)) 2 (some q8)) 3 (some q9)))), (6, .inr (4, [.int (nI (n * 4 + 0)), .ref q10, .int (nI 0)])), (10, .inl (G.2 2, 10, qr (fun _ => none))), (7, .inr (4, [.int (nI (n * 4 + 1)), .ref q11, .int (nI 0)])), (11, .inl (G.2 2, 10, qr (fun _ => none))), (8, .inr (4, [.int (nI (n * 4 + 2)), .ref q12, .int (nI 0)])), (12, .inl (G.2 2, 10, qr (fun _ => none))), (9, .inr (4, [.int (nI (n * 4 + 3)), .ref q13, .int (nI 0)])), (13, .inl (G.2 2, 10, qr (fun _ => none)))] cel) U) none := by
  refine gm_ofA (own := RX2) (by decide) rfl (Nat.le_of_ble_eq_true rfl) ?_
  intro p e s m below meth c ls F hml hr hlk hnm hK hA hR hl
  have hx := F.1
  have hb := F.2.1
  replace hl : lv_has ls 6 [(0, .ref (r)), (1, .int (nI n)), (2, .int fa), (3, .int de), (4, .null)] := hl
  refine lv_aload_n hx hb dX2_init_0 rfl (lv_at hl 0 rfl) ?_
  refine lv_objI F hml ml_X2_3 hl.1 dX2_init_1 (Nat.le_of_ble_eq_true rfl) (Nat.le_of_ble_eq_true rfl) ?_
  refine lv_aload_n hx hb dX2_init_4 rfl (lv_at hl 0 rfl) ?_
  refine lv_iconst (v := nI 3) hx hb dX2_init_5 (by decide) ?_
  refine gb_newq F hK hA hR 1 3 (by decide) rfl kl_X2_9 hK.2.2.1 rfl (N := 3) (by decide) (by decide) (by decide) (Nat.le_of_ble_eq_true rfl) (Nat.le_of_ble_eq_true rfl) (L' := [(0, .inr (2, [.int 0, .int 0, .int 0, .null, .null, .int 0, .null, .null, .null, .int 0, .null, .int 0])), (1, .inl (G.2 3, 3, qr (fun _ => none)))]) rfl dX2_init_6 (fun q1 H hR => ?_)
  refine gb_putF F hK hR 0 (by decide) rfl rfl rfl inX2 tyX2 tyX2_ok nmX2 4 (by decide) fl_X2_11 rfl hnm rfl (ty := tyX2 4) rfl (rfl) (rfl) (Nat.le_of_ble_eq_true rfl) (L' := [(0, .inr (2, [.int 0, .int 0, .int 0, .null, .ref (q1), .int 0, .null, .null, .null, .int 0, .null, .int 0])), (1, .inl (G.2 3, 3, qr (fun _ => none)))]) rfl dX2_init_9 (fun H locs hR => ?_)
  refine lv_aload_n hx hb dX2_init_12 rfl (lv_at hl 0 rfl) ?_
  refine lv_iconst (v := nI 0) hx hb dX2_init_13 (by decide) ?_
  refine gb_put F hK hR 0 (by decide) rfl rfl rfl inX2 tyX2 tyX2_ok nmX2 5 (by decide) fl_X2_15 rfl (ty := tyX2 5) rfl (rfl) (rfl) (Nat.le_of_ble_eq_true rfl) (L' := [(0, .inr (2, [.int 0, .int 0, .int 0, .null, .ref (q1), .int (nI 0), .null, .null, .null, .int 0, .null, .int 0])), (1, .inl (G.2 3, 3, qr (fun _ => none)))]) rfl dX2_init_14 (fun H locs hR => ?_)
  refine lv_aload_n hx hb dX2_init_17 rfl (lv_at hl 0 rfl) ?_
  refine lv_iconst (v := nI 4) hx hb dX2_init_18 (by decide) ?_
  refine gb_newa F hK hA hR 2 0 (by decide) rfl (atype := .int) ac_int rfl na_int (N := 4) (f := fun _ => 0) nf_int (by decide) (by decide) (by decide) (Nat.le_of_ble_eq_true rfl) (Nat.le_of_ble_eq_true rfl) (L' := [(0, .inr (2, [.int 0, .int 0, .int 0, .null, .ref (q1), .int (nI 0), .null, .null, .null, .int 0, .null, .int 0])), (1, .inl (G.2 3, 3, qr (fun _ => none))), (2, .inl (G.2 0, 4, .inl (fun _ => 0)))]) rfl dX2_init_19 (fun q2 H hR => ?_)
  refine gb_putF F hK hR 0 (by decide) rfl rfl rfl inX2 tyX2 tyX2_ok nmX2 6 (by decide) fl_X2_19 rfl hnm rfl (ty := tyX2 6) rfl (rfl) (rfl) (Nat.le_of_ble_eq_true rfl) (L' := [(0, .inr (2, [.int 0, .int 0, .int 0, .null, .ref (q1), .int (nI 0), .ref (q2), .null, .null, .int 0, .null, .int 0])), (1, .inl (G.2 3, 3, qr (fun _ => none))), (2, .inl (G.2 0, 4, .inl (fun _ => 0)))]) rfl dX2_init_21 (fun H locs hR => ?_)
  refine lv_aload_n hx hb dX2_init_24 rfl (lv_at hl 0 rfl) ?_
  refine lv_iconst (v := nI 4) hx hb dX2_init_25 (by decide) ?_
  refine gb_newa F hK hA hR 3 1 (by decide) rfl (atype := .boolean) ac_boolean rfl na_boolean (N := 4) (f := fun _ => 0) nf_boolean (by decide) (by decide) (by decide) (Nat.le_of_ble_eq_true rfl) (Nat.le_of_ble_eq_true rfl) (L' := [(0, .inr (2, [.int 0, .int 0, .int 0, .null, .ref (q1), .int (nI 0), .ref (q2), .null, .null, .int 0, .null, .int 0])), (1, .inl (G.2 3, 3, qr (fun _ => none))), (2, .inl (G.2 0, 4, .inl (fun _ => 0))), (3, .inl (G.2 1, 4, .inl (fun _ => 0)))]) rfl dX2_init_26 (fun q3 H hR => ?_)
  refine gb_putF F hK hR 0 (by decide) rfl rfl rfl inX2 tyX2 tyX2_ok nmX2 7 (by decide) fl_X2_23 rfl hnm rfl (ty := tyX2 7) rfl (rfl) (rfl) (Nat.le_of_ble_eq_true rfl) (L' := [(0, .inr (2, [.int 0, .int 0, .int 0, .null, .ref (q1), .int (nI 0), .ref (q2), .ref (q3), .null, .int 0, .null, .int 0])), (1, .inl (G.2 3, 3, qr (fun _ => none))), (2, .inl (G.2 0, 4, .inl (fun _ => 0))), (3, .inl (G.2 1, 4, .inl (fun _ => 0)))]) rfl dX2_init_28 (fun H locs hR => ?_)
  refine lv_aload_n hx hb dX2_init_31 rfl (lv_at hl 0 rfl) ?_
  refine lv_bipush (v := nI 20) hx hb dX2_init_32 (by decide) ?_
  refine gb_newa F hK hA hR 4 0 (by decide) rfl (atype := .int) ac_int rfl na_int (N := 20) (f := fun _ => 0) nf_int (by decide) (by decide) (by decide) (Nat.le_of_ble_eq_true rfl) (Nat.le_of_ble_eq_true rfl) (L' := [(0, .inr (2, [.int 0, .int 0, .int 0, .null, .ref (q1), .int (nI 0), .ref (q2), .ref (q3), .null, .int 0, .null, .int 0])), (1, .inl (G.2 3, 3, qr (fun _ => none))), (2, .inl (G.2 0, 4, .inl (fun _ => 0))), (3, .inl (G.2 1, 4, .inl (fun _ => 0))), (4, .inl (G.2 0, 20, .inl (fun _ => 0)))]) rfl dX2_init_34 (fun q4 H hR => ?_)
  refine gb_putF F hK hR 0 (by decide) rfl rfl rfl inX2 tyX2 tyX2_ok nmX2 8 (by decide) fl_X2_27 rfl hnm rfl (ty := tyX2 8) rfl (rfl) (rfl) (Nat.le_of_ble_eq_true rfl) (L' := [(0, .inr (2, [.int 0, .int 0, .int 0, .null, .ref (q1), .int (nI 0), .ref (q2), .ref (q3), .ref (q4), .int 0, .null, .int 0])), (1, .inl (G.2 3, 3, qr (fun _ => none))), (2, .inl (G.2 0, 4, .inl (fun _ => 0))), (3, .inl (G.2 1, 4, .inl (fun _ => 0))), (4, .inl (G.2 0, 20, .inl (fun _ => 0)))]) rfl dX2_init_36 (fun H locs hR => ?_)
  refine lv_aload_n hx hb dX2_init_39 rfl (lv_at hl 0 rfl) ?_
  refine lv_iconst (v := (-1)) hx hb dX2_init_40 (by decide) ?_
  refine gb_put F hK hR 0 (by decide) rfl rfl rfl inX2 tyX2 tyX2_ok nmX2 9 (by decide) fl_X2_30 rfl (ty := tyX2 9) rfl (rfl) (rfl) (Nat.le_of_ble_eq_true rfl) (L' := [(0, .inr (2, [.int 0, .int 0, .int 0, .null, .ref (q1), .int (nI 0), .ref (q2), .ref (q3), .ref (q4), .int (-1), .null, .int 0])), (1, .inl (G.2 3, 3, qr (fun _ => none))), (2, .inl (G.2 0, 4, .inl (fun _ => 0))), (3, .inl (G.2 1, 4, .inl (fun _ => 0))), (4, .inl (G.2 0, 20, .inl (fun _ => 0)))]) rfl dX2_init_41 (fun H locs hR => ?_)
  refine lv_aload_n hx hb dX2_init_44 rfl (lv_at hl 0 rfl) ?_
  refine lv_iconst (v := nI 4) hx hb dX2_init_45 (by decide) ?_
  refine gb_newq F hK hA hR 5 4 (by decide) rfl kl_X2_33 hK.2.2.2 rfl (N := 4) (by decide) (by decide) (by decide) (Nat.le_of_ble_eq_true rfl) (Nat.le_of_ble_eq_true rfl) (L' := [(0, .inr (2, [.int 0, .int 0, .int 0, .null, .ref (q1), .int (nI 0), .ref (q2), .ref (q3), .ref (q4), .int (-1), .null, .int 0])), (1, .inl (G.2 3, 3, qr (fun _ => none))), (2, .inl (G.2 0, 4, .inl (fun _ => 0))), (3, .inl (G.2 1, 4, .inl (fun _ => 0))), (4, .inl (G.2 0, 20, .inl (fun _ => 0))), (5, .inl (G.2 4, 4, qr (fun _ => none)))]) rfl dX2_init_46 (fun q5 H hR => ?_)
  refine gb_putF F hK hR 0 (by decide) rfl rfl rfl inX2 tyX2 tyX2_ok nmX2 10 (by decide) fl_X2_35 rfl hnm rfl (ty := tyX2 10) rfl (rfl) (rfl) (Nat.le_of_ble_eq_true rfl) (L' := [(0, .inr (2, [.int 0, .int 0, .int 0, .null, .ref (q1), .int (nI 0), .ref (q2), .ref (q3), .ref (q4), .int (-1), .ref (q5), .int 0])), (1, .inl (G.2 3, 3, qr (fun _ => none))), (2, .inl (G.2 0, 4, .inl (fun _ => 0))), (3, .inl (G.2 1, 4, .inl (fun _ => 0))), (4, .inl (G.2 0, 20, .inl (fun _ => 0))), (5, .inl (G.2 4, 4, qr (fun _ => none)))]) rfl dX2_init_49 (fun H locs hR => ?_)
  refine lv_aload_n hx hb dX2_init_52 rfl (lv_at hl 0 rfl) ?_
  refine lv_iconst (v := nI 0) hx hb dX2_init_53 (by decide) ?_
  refine gb_put F hK hR 0 (by decide) rfl rfl rfl inX2 tyX2 tyX2_ok nmX2 11 (by decide) fl_X2_39 rfl (ty := tyX2 11) rfl (rfl) (rfl) (Nat.le_of_ble_eq_true rfl) (L' := [(0, .inr (2, [.int 0, .int 0, .int 0, .null, .ref (q1), .int (nI 0), .ref (q2), .ref (q3), .ref (q4), .int (-1), .ref (q5), .int (nI 0)])), (1, .inl (G.2 3, 3, qr (fun _ => none))), (2, .inl (G.2 0, 4, .inl (fun _ => 0))), (3, .inl (G.2 1, 4, .inl (fun _ => 0))), (4, .inl (G.2 0, 20, .inl (fun _ => 0))), (5, .inl (G.2 4, 4, qr (fun _ => none)))]) rfl dX2_init_54 (fun H locs hR => ?_)
  refine lv_aload_n hx hb dX2_init_57 rfl (lv_at hl 0 rfl) ?_
  refine lv_iload_n hx hb dX2_init_58 rfl (lv_at hl 1 rfl) ?_
  refine gb_putF F hK hR 0 (by decide) rfl rfl rfl inX2 tyX2 tyX2_ok nmX2 0 (by decide) fl_X2_42 rfl hnm rfl (ty := tyX2 0) rfl (rfl) (rfl) (Nat.le_of_ble_eq_true rfl) (L' := [(0, .inr (2, [.int (nI n), .int 0, .int 0, .null, .ref (q1), .int (nI 0), .ref (q2), .ref (q3), .ref (q4), .int (-1), .ref (q5), .int (nI 0)])), (1, .inl (G.2 3, 3, qr (fun _ => none))), (2, .inl (G.2 0, 4, .inl (fun _ => 0))), (3, .inl (G.2 1, 4, .inl (fun _ => 0))), (4, .inl (G.2 0, 20, .inl (fun _ => 0))), (5, .inl (G.2 4, 4, qr (fun _ => none)))]) rfl dX2_init_59 (fun H locs hR => ?_)
  refine lv_aload_n hx hb dX2_init_62 rfl (lv_at hl 0 rfl) ?_
  refine lv_iload_n hx hb dX2_init_63 rfl (lv_at hl 2 rfl) ?_
  refine gb_putF F hK hR 0 (by decide) rfl rfl rfl inX2 tyX2 tyX2_ok nmX2 1 (by decide) fl_X2_45 rfl hnm rfl (ty := tyX2 1) rfl (by rcases hfa with rfl | rfl <;> rfl) (by rcases hfa with rfl | rfl <;> rfl) (Nat.le_of_ble_eq_true rfl) (L' := [(0, .inr (2, [.int (nI n), .int fa, .int 0, .null, .ref (q1), .int (nI 0), .ref (q2), .ref (q3), .ref (q4), .int (-1), .ref (q5), .int (nI 0)])), (1, .inl (G.2 3, 3, qr (fun _ => none))), (2, .inl (G.2 0, 4, .inl (fun _ => 0))), (3, .inl (G.2 1, 4, .inl (fun _ => 0))), (4, .inl (G.2 0, 20, .inl (fun _ => 0))), (5, .inl (G.2 4, 4, qr (fun _ => none)))]) rfl dX2_init_64 (fun H locs hR => ?_)
  refine lv_aload_n hx hb dX2_init_67 rfl (lv_at hl 0 rfl) ?_
  refine lv_iload_n hx hb dX2_init_68 rfl (lv_at hl 3 rfl) ?_
  refine gb_putF F hK hR 0 (by decide) rfl rfl rfl inX2 tyX2 tyX2_ok nmX2 2 (by decide) fl_X2_49 rfl hnm rfl (ty := tyX2 2) rfl (by rcases hde with rfl | rfl <;> rfl) (by rcases hde with rfl | rfl <;> rfl) (Nat.le_of_ble_eq_true rfl) (L' := [(0, .inr (2, [.int (nI n), .int fa, .int de, .null, .ref (q1), .int (nI 0), .ref (q2), .ref (q3), .ref (q4), .int (-1), .ref (q5), .int (nI 0)])), (1, .inl (G.2 3, 3, qr (fun _ => none))), (2, .inl (G.2 0, 4, .inl (fun _ => 0))), (3, .inl (G.2 1, 4, .inl (fun _ => 0))), (4, .inl (G.2 0, 20, .inl (fun _ => 0))), (5, .inl (G.2 4, 4, qr (fun _ => none)))]) rfl dX2_init_69 (fun H locs hR => ?_)
  refine lv_aload_n hx hb dX2_init_72 rfl (lv_at hl 0 rfl) ?_
  refine lv_aloadN hx hb dX2_init_73 (lv_at hl 4 rfl) ?_
  refine gb_putF F hK hR 0 (by decide) rfl rfl rfl inX2 tyX2 tyX2_ok nmX2 3 (by decide) fl_X2_52 rfl hnm rfl (ty := tyX2 3) rfl (rfl) (rfl) (Nat.le_of_ble_eq_true rfl) (L' := [(0, .inr (2, [.int (nI n), .int fa, .int de, .null, .ref (q1), .int (nI 0), .ref (q2), .ref (q3), .ref (q4), .int (-1), .ref (q5), .int (nI 0)])), (1, .inl (G.2 3, 3, qr (fun _ => none))), (2, .inl (G.2 0, 4, .inl (fun _ => 0))), (3, .inl (G.2 1, 4, .inl (fun _ => 0))), (4, .inl (G.2 0, 20, .inl (fun _ => 0))), (5, .inl (G.2 4, 4, qr (fun _ => none)))]) rfl dX2_init_75 (fun H locs hR => ?_)
  refine lv_iconst (v := nI 0) hx hb dX2_init_78 (by decide) ?_
  refine lv_istore (lv' := [(5, .int (nI 0)), (0, .ref (r)), (1, .int (nI n)), (2, .int fa), (3, .int de), (4, .null)]) hx hb dX2_init_79 hl (by decide) rfl (fun ls hl => ?_)
  refine lv_iload hx hb dX2_init_81 (lv_at hl 0 rfl) ?_
  refine lv_iconst (v := nI 4) hx hb dX2_init_83 (by decide) ?_
  refine nv_icmp_ge (by omega) (by omega) hx hb dX2_init_84 (tgt := 113) (by decide) (fun c_84 => absurd c_84 (by omega)) (fun c_84 => ?_)
  refine lv_aload_n hx hb dX2_init_87 rfl (lv_at hl 1 rfl) ?_
  refine gb_get F hK hR 0 (by decide) rfl rfl rfl inX2 10 (by decide) fl_X2_35 rfl dX2_init_88 ?_
  refine lv_iload hx hb dX2_init_91 (lv_at hl 0 rfl) ?_
  refine gb_new F hK hA hR 6 4 (by decide) rfl rfl inX4 tyX4 tyX4_ok kl_X2_33 ia_X4 in_X4 (fs := [.int 0, .null, .int 0]) (by decide +kernel) (Nat.le_of_ble_eq_true rfl) (Nat.le_of_ble_eq_true rfl) (L' := [(0, .inr (2, [.int (nI n), .int fa, .int de, .null, .ref (q1), .int (nI 0), .ref (q2), .ref (q3), .ref (q4), .int (-1), .ref (q5), .int (nI 0)])), (1, .inl (G.2 3, 3, qr (fun _ => none))), (2, .inl (G.2 0, 4, .inl (fun _ => 0))), (3, .inl (G.2 1, 4, .inl (fun _ => 0))), (4, .inl (G.2 0, 20, .inl (fun _ => 0))), (5, .inl (G.2 4, 4, qr (fun _ => none))), (6, .inr (4, [.int 0, .null, .int 0]))]) rfl dX2_init_93 (fun q6 H hR => ?_)
  refine lv_dup hx hb dX2_init_96 rfl ?_
  refine lv_iload_n hx hb dX2_init_97 rfl (lv_at hl 2 rfl) ?_
  refine lv_iconst (v := nI 4) hx hb dX2_init_98 (by decide) ?_
  refine nv_imul hx hb dX2_init_99 ?_
  refine lv_iload hx hb dX2_init_100 (lv_at hl 0 rfl) ?_
  refine nv_iadd hx hb dX2_init_102 ?_
  refine gcI (As := [.int (nI (n * 4 + 0))]) F hK hA hR hml ci_X2_56 (c_X4_init l G A adr cel b 60 _ _ q6 6 10 (nI (n * 4 + 0)) _ _ _ (by decide) (by decide) (by decide) rfl rfl rfl) ⟨rfl, rfl⟩ ⟨Nat.le_of_ble_eq_true rfl, Nat.le_of_ble_eq_true rfl⟩ rfl rfl hl.1 (Nat.le_of_ble_eq_true rfl) dX2_init_103 ⟨Nat.le_of_ble_eq_true rfl, Nat.le_of_ble_eq_true rfl⟩ (fun U H locs hU hP hS => ?_)
  obtain ⟨q10, hP⟩ := hP
  replace hR : gw_B G A (bN b 60 [(10, q10), (6, q6), (5, q5), (4, q4), (3, q3), (2, q2), (1, q1), (0, r)] adr) (bC b 60 [(0, .inr (2, [.int (nI n), .int fa, .int de, .null, .ref (q1), .int (nI 0), .ref (q2), .ref (q3), .ref (q4), .int (-1), .ref (q5), .int (nI 0)])), (1, .inl (G.2 3, 3, qr (fun _ => none))), (2, .inl (G.2 0, 4, .inl (fun _ => 0))), (3, .inl (G.2 1, 4, .inl (fun _ => 0))), (4, .inl (G.2 0, 20, .inl (fun _ => 0))), (5, .inl (G.2 4, 4, qr (fun _ => none))), (6, .inr (4, [.int (nI (n * 4 + 0)), .ref q10, .int (nI 0)])), (10, .inl (G.2 2, 10, qr (fun _ => none)))] cel) s.heap H locs := gW_back hP hU hS
  clear hP hU hS
  refine gb_aast F hK hR 5 4 (by decide) (r := (RX4, TX4, 3)) rfl rfl 6 4 (by decide) rfl rfl rfl rfl (by decide) (by decide) (by decide) (L' := [(0, .inr (2, [.int (nI n), .int fa, .int de, .null, .ref (q1), .int (nI 0), .ref (q2), .ref (q3), .ref (q4), .int (-1), .ref (q5), .int (nI 0)])), (1, .inl (G.2 3, 3, qr (fun _ => none))), (2, .inl (G.2 0, 4, .inl (fun _ => 0))), (3, .inl (G.2 1, 4, .inl (fun _ => 0))), (4, .inl (G.2 0, 20, .inl (fun _ => 0))), (5, .inl (G.2 4, 4, qr (va_up (fun _ => none) 0 (some q6)))), (6, .inr (4, [.int (nI (n * 4 + 0)), .ref q10, .int (nI 0)])), (10, .inl (G.2 2, 10, qr (fun _ => none)))]) rfl dX2_init_106 (fun H locs hR => ?_)
  refine lv_iinc (v := nI 1) (lv' := [(5, .int (nI 1)), (0, .ref (r)), (1, .int (nI n)), (2, .int fa), (3, .int de), (4, .null)]) hx hb dX2_init_107 hl (k := 0) rfl (nI_add _ _) (by decide) rfl (fun ls hl => ?_)
  refine lv_goto (tgt := 81) hx hb dX2_init_110 (by decide) ?_
  refine lv_iload hx hb dX2_init_81 (lv_at hl 0 rfl) ?_
  refine lv_iconst (v := nI 4) hx hb dX2_init_83 (by decide) ?_
  refine nv_icmp_ge (by omega) (by omega) hx hb dX2_init_84 (tgt := 113) (by decide) (fun c_84 => absurd c_84 (by omega)) (fun c_84 => ?_)
  refine lv_aload_n hx hb dX2_init_87 rfl (lv_at hl 1 rfl) ?_
  refine gb_get F hK hR 0 (by decide) rfl rfl rfl inX2 10 (by decide) fl_X2_35 rfl dX2_init_88 ?_
  refine lv_iload hx hb dX2_init_91 (lv_at hl 0 rfl) ?_
  refine gb_new F hK hA hR 7 4 (by decide) rfl rfl inX4 tyX4 tyX4_ok kl_X2_33 ia_X4 in_X4 (fs := [.int 0, .null, .int 0]) (by decide +kernel) (Nat.le_of_ble_eq_true rfl) (Nat.le_of_ble_eq_true rfl) (L' := [(0, .inr (2, [.int (nI n), .int fa, .int de, .null, .ref (q1), .int (nI 0), .ref (q2), .ref (q3), .ref (q4), .int (-1), .ref (q5), .int (nI 0)])), (1, .inl (G.2 3, 3, qr (fun _ => none))), (2, .inl (G.2 0, 4, .inl (fun _ => 0))), (3, .inl (G.2 1, 4, .inl (fun _ => 0))), (4, .inl (G.2 0, 20, .inl (fun _ => 0))), (5, .inl (G.2 4, 4, qr (va_up (fun _ => none) 0 (some q6)))), (6, .inr (4, [.int (nI (n * 4 + 0)), .ref q10, .int (nI 0)])), (10, .inl (G.2 2, 10, qr (fun _ => none))), (7, .inr (4, [.int 0, .null, .int 0]))]) rfl dX2_init_93 (fun q7 H hR => ?_)
  refine lv_dup hx hb dX2_init_96 rfl ?_
  refine lv_iload_n hx hb dX2_init_97 rfl (lv_at hl 2 rfl) ?_
  refine lv_iconst (v := nI 4) hx hb dX2_init_98 (by decide) ?_
  refine nv_imul hx hb dX2_init_99 ?_
  refine lv_iload hx hb dX2_init_100 (lv_at hl 0 rfl) ?_
  refine nv_iadd hx hb dX2_init_102 ?_
  refine gcI (As := [.int (nI (n * 4 + 1))]) F hK hA hR hml ci_X2_56 (c_X4_init l G A adr cel b 60 _ _ q7 7 11 (nI (n * 4 + 1)) _ _ _ (by decide) (by decide) (by decide) rfl rfl rfl) ⟨rfl, rfl⟩ ⟨Nat.le_of_ble_eq_true rfl, Nat.le_of_ble_eq_true rfl⟩ rfl rfl hl.1 (Nat.le_of_ble_eq_true rfl) dX2_init_103 ⟨Nat.le_of_ble_eq_true rfl, Nat.le_of_ble_eq_true rfl⟩ (fun U H locs hU hP hS => ?_)
  obtain ⟨q11, hP⟩ := hP
  replace hR : gw_B G A (bN b 60 [(11, q11), (7, q7), (10, q10), (6, q6), (5, q5), (4, q4), (3, q3), (2, q2), (1, q1), (0, r)] adr) (bC b 60 [(0, .inr (2, [.int (nI n), .int fa, .int de, .null, .ref (q1), .int (nI 0), .ref (q2), .ref (q3), .ref (q4), .int (-1), .ref (q5), .int (nI 0)])), (1, .inl (G.2 3, 3, qr (fun _ => none))), (2, .inl (G.2 0, 4, .inl (fun _ => 0))), (3, .inl (G.2 1, 4, .inl (fun _ => 0))), (4, .inl (G.2 0, 20, .inl (fun _ => 0))), (5, .inl (G.2 4, 4, qr (va_up (fun _ => none) 0 (some q6)))), (6, .inr (4, [.int (nI (n * 4 + 0)), .ref q10, .int (nI 0)])), (10, .inl (G.2 2, 10, qr (fun _ => none))), (7, .inr (4, [.int (nI (n * 4 + 1)), .ref q11, .int (nI 0)])), (11, .inl (G.2 2, 10, qr (fun _ => none)))] cel) s.heap H locs := gW_back hP hU hS
  clear hP hU hS
  refine gb_aast F hK hR 5 4 (by decide) (r := (RX4, TX4, 3)) rfl rfl 7 4 (by decide) rfl rfl rfl rfl (by decide) (by decide) (by decide) (L' := [(0, .inr (2, [.int (nI n), .int fa, .int de, .null, .ref (q1), .int (nI 0), .ref (q2), .ref (q3), .ref (q4), .int (-1), .ref (q5), .int (nI 0)])), (1, .inl (G.2 3, 3, qr (fun _ => none))), (2, .inl (G.2 0, 4, .inl (fun _ => 0))), (3, .inl (G.2 1, 4, .inl (fun _ => 0))), (4, .inl (G.2 0, 20, .inl (fun _ => 0))), (5, .inl (G.2 4, 4, qr (va_up (va_up (fun _ => none) 0 (some q6)) 1 (some q7)))), (6, .inr (4, [.int (nI (n * 4 + 0)), .ref q10, .int (nI 0)])), (10, .inl (G.2 2, 10, qr (fun _ => none))), (7, .inr (4, [.int (nI (n * 4 + 1)), .ref q11, .int (nI 0)])), (11, .inl (G.2 2, 10, qr (fun _ => none)))]) rfl dX2_init_106 (fun H locs hR => ?_)
  refine lv_iinc (v := nI 2) (lv' := [(5, .int (nI 2)), (0, .ref (r)), (1, .int (nI n)), (2, .int fa), (3, .int de), (4, .null)]) hx hb dX2_init_107 hl (k := 0) rfl (nI_add _ _) (by decide) rfl (fun ls hl => ?_)
  refine lv_goto (tgt := 81) hx hb dX2_init_110 (by decide) ?_
  refine lv_iload hx hb dX2_init_81 (lv_at hl 0 rfl) ?_
  refine lv_iconst (v := nI 4) hx hb dX2_init_83 (by decide) ?_
  refine nv_icmp_ge (by omega) (by omega) hx hb dX2_init_84 (tgt := 113) (by decide) (fun c_84 => absurd c_84 (by omega)) (fun c_84 => ?_)
  refine lv_aload_n hx hb dX2_init_87 rfl (lv_at hl 1 rfl) ?_
  refine gb_get F hK hR 0 (by decide) rfl rfl rfl inX2 10 (by decide) fl_X2_35 rfl dX2_init_88 ?_
  refine lv_iload hx hb dX2_init_91 (lv_at hl 0 rfl) ?_
  refine gb_new F hK hA hR 8 4 (by decide) rfl rfl inX4 tyX4 tyX4_ok kl_X2_33 ia_X4 in_X4 (fs := [.int 0, .null, .int 0]) (by decide +kernel) (Nat.le_of_ble_eq_true rfl) (Nat.le_of_ble_eq_true rfl) (L' := [(0, .inr (2, [.int (nI n), .int fa, .int de, .null, .ref (q1), .int (nI 0), .ref (q2), .ref (q3), .ref (q4), .int (-1), .ref (q5), .int (nI 0)])), (1, .inl (G.2 3, 3, qr (fun _ => none))), (2, .inl (G.2 0, 4, .inl (fun _ => 0))), (3, .inl (G.2 1, 4, .inl (fun _ => 0))), (4, .inl (G.2 0, 20, .inl (fun _ => 0))), (5, .inl (G.2 4, 4, qr (va_up (va_up (fun _ => none) 0 (some q6)) 1 (some q7)))), (6, .inr (4, [.int (nI (n * 4 + 0)), .ref q10, .int (nI 0)])), (10, .inl (G.2 2, 10, qr (fun _ => none))), (7, .inr (4, [.int (nI (n * 4 + 1)), .ref q11, .int (nI 0)])), (11, .inl (G.2 2, 10, qr (fun _ => none))), (8, .inr (4, [.int 0, .null, .int 0]))]) rfl dX2_init_93 (fun q8 H hR => ?_)
  refine lv_dup hx hb dX2_init_96 rfl ?_
  refine lv_iload_n hx hb dX2_init_97 rfl (lv_at hl 2 rfl) ?_
  refine lv_iconst (v := nI 4) hx hb dX2_init_98 (by decide) ?_
  refine nv_imul hx hb dX2_init_99 ?_
  refine lv_iload hx hb dX2_init_100 (lv_at hl 0 rfl) ?_
  refine nv_iadd hx hb dX2_init_102 ?_
  refine gcI (As := [.int (nI (n * 4 + 2))]) F hK hA hR hml ci_X2_56 (c_X4_init l G A adr cel b 60 _ _ q8 8 12 (nI (n * 4 + 2)) _ _ _ (by decide) (by decide) (by decide) rfl rfl rfl) ⟨rfl, rfl⟩ ⟨Nat.le_of_ble_eq_true rfl, Nat.le_of_ble_eq_true rfl⟩ rfl rfl hl.1 (Nat.le_of_ble_eq_true rfl) dX2_init_103 ⟨Nat.le_of_ble_eq_true rfl, Nat.le_of_ble_eq_true rfl⟩ (fun U H locs hU hP hS => ?_)
  obtain ⟨q12, hP⟩ := hP
  replace hR : gw_B G A (bN b 60 [(12, q12), (8, q8), (11, q11), (7, q7), (10, q10), (6, q6), (5, q5), (4, q4), (3, q3), (2, q2), (1, q1), (0, r)] adr) (bC b 60 [(0, .inr (2, [.int (nI n), .int fa, .int de, .null, .ref (q1), .int (nI 0), .ref (q2), .ref (q3), .ref (q4), .int (-1), .ref (q5), .int (nI 0)])), (1, .inl (G.2 3, 3, qr (fun _ => none))), (2, .inl (G.2 0, 4, .inl (fun _ => 0))), (3, .inl (G.2 1, 4, .inl (fun _ => 0))), (4, .inl (G.2 0, 20, .inl (fun _ => 0))), (5, .inl (G.2 4, 4, qr (va_up (va_up (fun _ => none) 0 (some q6)) 1 (some q7)))), (6, .inr (4, [.int (nI (n * 4 + 0)), .ref q10, .int (nI 0)])), (10, .inl (G.2 2, 10, qr (fun _ => none))), (7, .inr (4, [.int (nI (n * 4 + 1)), .ref q11, .int (nI 0)])), (11, .inl (G.2 2, 10, qr (fun _ => none))), (8, .inr (4, [.int (nI (n * 4 + 2)), .ref q12, .int (nI 0)])), (12, .inl (G.2 2, 10, qr (fun _ => none)))] cel) s.heap H locs := gW_back hP hU hS
  clear hP hU hS
  refine gb_aast F hK hR 5 4 (by decide) (r := (RX4, TX4, 3)) rfl rfl 8 4 (by decide) rfl rfl rfl rfl (by decide) (by decide) (by decide) (L' := [(0, .inr (2, [.int (nI n), .int fa, .int de, .null, .ref (q1), .int (nI 0), .ref (q2), .ref (q3), .ref (q4), .int (-1), .ref (q5), .int (nI 0)])), (1, .inl (G.2 3, 3, qr (fun _ => none))), (2, .inl (G.2 0, 4, .inl (fun _ => 0))), (3, .inl (G.2 1, 4, .inl (fun _ => 0))), (4, .inl (G.2 0, 20, .inl (fun _ => 0))), (5, .inl (G.2 4, 4, qr (va_up (va_up (va_up (fun _ => none) 0 (some q6)) 1 (some q7)) 2 (some q8)))), (6, .inr (4, [.int (nI (n * 4 + 0)), .ref q10, .int (nI 0)])), (10, .inl (G.2 2, 10, qr (fun _ => none))), (7, .inr (4, [.int (nI (n * 4 + 1)), .ref q11, .int (nI 0)])), (11, .inl (G.2 2, 10, qr (fun _ => none))), (8, .inr (4, [.int (nI (n * 4 + 2)), .ref q12, .int (nI 0)])), (12, .inl (G.2 2, 10, qr (fun _ => none)))]) rfl dX2_init_106 (fun H locs hR => ?_)
  refine lv_iinc (v := nI 3) (lv' := [(5, .int (nI 3)), (0, .ref (r)), (1, .int (nI n)), (2, .int fa), (3, .int de), (4, .null)]) hx hb dX2_init_107 hl (k := 0) rfl (nI_add _ _) (by decide) rfl (fun ls hl => ?_)
  refine lv_goto (tgt := 81) hx hb dX2_init_110 (by decide) ?_
  refine lv_iload hx hb dX2_init_81 (lv_at hl 0 rfl) ?_
  refine lv_iconst (v := nI 4) hx hb dX2_init_83 (by decide) ?_
  refine nv_icmp_ge (by omega) (by omega) hx hb dX2_init_84 (tgt := 113) (by decide) (fun c_84 => absurd c_84 (by omega)) (fun c_84 => ?_)
  refine lv_aload_n hx hb dX2_init_87 rfl (lv_at hl 1 rfl) ?_
  refine gb_get F hK hR 0 (by decide) rfl rfl rfl inX2 10 (by decide) fl_X2_35 rfl dX2_init_88 ?_
  refine lv_iload hx hb dX2_init_91 (lv_at hl 0 rfl) ?_
  refine gb_new F hK hA hR 9 4 (by decide) rfl rfl inX4 tyX4 tyX4_ok kl_X2_33 ia_X4 in_X4 (fs := [.int 0, .null, .int 0]) (by decide +kernel) (Nat.le_of_ble_eq_true rfl) (Nat.le_of_ble_eq_true rfl) (L' := [(0, .inr (2, [.int (nI n), .int fa, .int de, .null, .ref (q1), .int (nI 0), .ref (q2), .ref (q3), .ref (q4), .int (-1), .ref (q5), .int (nI 0)])), (1, .inl (G.2 3, 3, qr (fun _ => none))), (2, .inl (G.2 0, 4, .inl (fun _ => 0))), (3, .inl (G.2 1, 4, .inl (fun _ => 0))), (4, .inl (G.2 0, 20, .inl (fun _ => 0))), (5, .inl (G.2 4, 4, qr (va_up (va_up (va_up (fun _ => none) 0 (some q6)) 1 (some q7)) 2 (some q8)))), (6, .inr (4, [.int (nI (n * 4 + 0)), .ref q10, .int (nI 0)])), (10, .inl (G.2 2, 10, qr (fun _ => none))), (7, .inr (4, [.int (nI (n * 4 + 1)), .ref q11, .int (nI 0)])), (11, .inl (G.2 2, 10, qr (fun _ => none))), (8, .inr (4, [.int (nI (n * 4 + 2)), .ref q12, .int (nI 0)])), (12, .inl (G.2 2, 10, qr (fun _ => none))), (9, .inr (4, [.int 0, .null, .int 0]))]) rfl dX2_init_93 (fun q9 H hR => ?_)
  refine lv_dup hx hb dX2_init_96 rfl ?_
  refine lv_iload_n hx hb dX2_init_97 rfl (lv_at hl 2 rfl) ?_
  refine lv_iconst (v := nI 4) hx hb dX2_init_98 (by decide) ?_
  refine nv_imul hx hb dX2_init_99 ?_
  refine lv_iload hx hb dX2_init_100 (lv_at hl 0 rfl) ?_
  refine nv_iadd hx hb dX2_init_102 ?_
  refine gcI (As := [.int (nI (n * 4 + 3))]) F hK hA hR hml ci_X2_56 (c_X4_init l G A adr cel b 60 _ _ q9 9 13 (nI (n * 4 + 3)) _ _ _ (by decide) (by decide) (by decide) rfl rfl rfl) ⟨rfl, rfl⟩ ⟨Nat.le_of_ble_eq_true rfl, Nat.le_of_ble_eq_true rfl⟩ rfl rfl hl.1 (Nat.le_of_ble_eq_true rfl) dX2_init_103 ⟨Nat.le_of_ble_eq_true rfl, Nat.le_of_ble_eq_true rfl⟩ (fun U H locs hU hP hS => ?_)
  obtain ⟨q13, hP⟩ := hP
  replace hR : gw_B G A (bN b 60 [(13, q13), (9, q9), (12, q12), (8, q8), (11, q11), (7, q7), (10, q10), (6, q6), (5, q5), (4, q4), (3, q3), (2, q2), (1, q1), (0, r)] adr) (bC b 60 [(0, .inr (2, [.int (nI n), .int fa, .int de, .null, .ref (q1), .int (nI 0), .ref (q2), .ref (q3), .ref (q4), .int (-1), .ref (q5), .int (nI 0)])), (1, .inl (G.2 3, 3, qr (fun _ => none))), (2, .inl (G.2 0, 4, .inl (fun _ => 0))), (3, .inl (G.2 1, 4, .inl (fun _ => 0))), (4, .inl (G.2 0, 20, .inl (fun _ => 0))), (5, .inl (G.2 4, 4, qr (va_up (va_up (va_up (fun _ => none) 0 (some q6)) 1 (some q7)) 2 (some q8)))), (6, .inr (4, [.int (nI (n * 4 + 0)), .ref q10, .int (nI 0)])), (10, .inl (G.2 2, 10, qr (fun _ => none))), (7, .inr (4, [.int (nI (n * 4 + 1)), .ref q11, .int (nI 0)])), (11, .inl (G.2 2, 10, qr (fun _ => none))), (8, .inr (4, [.int (nI (n * 4 + 2)), .ref q12, .int (nI 0)])), (12, .inl (G.2 2, 10, qr (fun _ => none))), (9, .inr (4, [.int (nI (n * 4 + 3)), .ref q13, .int (nI 0)])), (13, .inl (G.2 2, 10, qr (fun _ => none)))] cel) s.heap H locs := gW_back hP hU hS
  clear hP hU hS
  refine gb_aast F hK hR 5 4 (by decide) (r := (RX4, TX4, 3)) rfl rfl 9 4 (by decide) rfl rfl rfl rfl (by decide) (by decide) (by decide) (L' := [(0, .inr (2, [.int (nI n), .int fa, .int de, .null, .ref (q1), .int (nI 0), .ref (q2), .ref (q3), .ref (q4), .int (-1), .ref (q5), .int (nI 0)])), (1, .inl (G.2 3, 3, qr (fun _ => none))), (2, .inl (G.2 0, 4, .inl (fun _ => 0))), (3, .inl (G.2 1, 4, .inl (fun _ => 0))), (4, .inl (G.2 0, 20, .inl (fun _ => 0))), (5, .inl (G.2 4, 4, qr (va_up (va_up (va_up (va_up (fun _ => none) 0 (some q6)) 1 (some q7)) 2 (some q8)) 3 (some q9)))), (6, .inr (4, [.int (nI (n * 4 + 0)), .ref q10, .int (nI 0)])), (10, .inl (G.2 2, 10, qr (fun _ => none))), (7, .inr (4, [.int (nI (n * 4 + 1)), .ref q11, .int (nI 0)])), (11, .inl (G.2 2, 10, qr (fun _ => none))), (8, .inr (4, [.int (nI (n * 4 + 2)), .ref q12, .int (nI 0)])), (12, .inl (G.2 2, 10, qr (fun _ => none))), (9, .inr (4, [.int (nI (n * 4 + 3)), .ref q13, .int (nI 0)])), (13, .inl (G.2 2, 10, qr (fun _ => none)))]) rfl dX2_init_106 (fun H locs hR => ?_)
  refine lv_iinc (v := nI 4) (lv' := [(5, .int (nI 4)), (0, .ref (r)), (1, .int (nI n)), (2, .int fa), (3, .int de), (4, .null)]) hx hb dX2_init_107 hl (k := 0) rfl (nI_add _ _) (by decide) rfl (fun ls hl => ?_)
  refine lv_goto (tgt := 81) hx hb dX2_init_110 (by decide) ?_
  refine lv_iload hx hb dX2_init_81 (lv_at hl 0 rfl) ?_
  refine lv_iconst (v := nI 4) hx hb dX2_init_83 (by decide) ?_
  refine nv_icmp_ge (by omega) (by omega) hx hb dX2_init_84 (tgt := 113) (by decide) (fun c_84 => ?_) (fun c_84 => absurd c_84 (by omega))
  exact gr_vP F hr hlk hK hR dX2_init_113 (fun t ht => ⟨q1, q2, q3, q4, q5, q6, q7, q8, q9, q10, q11, q12, q13, ht⟩)
set_option maxHeartbeats 4000000 in
set_option maxRecDepth 100000 in
/-- new Kind(..) -/
theorem c_X2_initP (l : Launch) (G : gw_G) (A : Nat → Prop) (adr : Nat → Nat) (cel : Nat → Option va_E) (b r n : Nat) (z : Nat) (fa de : Int32) (hfa : fa = 0 ∨ fa = 1) (hde : de = 0 ∨ de = 1) : gm l yX2_init cX2_init 6 none (rmA 2 13 87) 13 87 A [.ref (r), .int (nI n), .int fa, .int de, .ref (z)] (gWa G A (bN b 60 [(0, r)] adr) (bC b 60 [(0, .inr (2, [.int 0, .int 0, .int 0, .null, .null, .int 0, .null, .null, .null, .int 0, .null, .int 0]))] cel)) (fun U => ∃ q1 q2 q3 q4 q5 q6 q7 q8 q9 q10 q11 q12 q13, gW G A (bN b 60 [(13, q13), (9, q9), (12, q12), (8, q8), (11, q11), (7, q7), (10, q10), (6, q6), (5, q5), (4, q4), (3, q3), (2, q2), (1, q1), (0, r)] adr) (bC b 60 [(0, .inr (2, [.int (nI n), .int fa, .int de, .ref z, .ref q1, .int (nI 0), .ref q2, .ref q3, .ref q4, .int (-1), .ref q5, .int (nI 0)])), (1, .inl (G.2 3, 3, qr (fun _ => none))), (2, .inl (G.2 0, 4, .inl (fun _ => 0))), (3, .inl (G.2 1, 4, .inl (fun _ => 0))), (4, .inl (G.2 0, 20, .inl (fun _ => 0))), (5, .inl (G.2 4, 4, qr (va_up (va_up (va_up (va_up (fun _ => none) 0 (some q6)) 1 (some q7)) 2 (some q8)) 3 (some q9)))), (6, .inr (4, [.int (nI (n * 4 + 0)), .ref q10, .int (nI 0)])), (10, .inl (G.2 2, 10, qr (fun _ => none))), (7, .inr (4, [.int (nI (n * 4 + 1)), .ref q11, .int (nI 0)])), (11, .inl (G.2 2, 10, qr (fun _ => none))), (8, .inr (4, [.int (nI (n * 4 + 2)), .ref q12, .int (nI 0)])), (12, .inl (G.2 2, 10, qr (fun _ => none))), (9, .inr (4, [.int (nI (n * 4 + 3)), .ref q13, .int (nI 0)])), (13, .inl (G.2 2, 10, qr (fun _ => none)))] cel) U) none := by
  refine gm_ofA (own := RX2) (by decide) rfl (Nat.le_of_ble_eq_true rfl) ?_
  intro p e s m below meth c ls F hml hr hlk hnm hK hA hR hl
  have hx := F.1
  have hb := F.2.1
  replace hl : lv_has ls 6 [(0, .ref (r)), (1, .int (nI n)), (2, .int fa), (3, .int de), (4, .ref (z))] := hl
  refine lv_aload_n hx hb dX2_init_0 rfl (lv_at hl 0 rfl) ?_
  refine lv_objI F hml ml_X2_3 hl.1 dX2_init_1 (Nat.le_of_ble_eq_true rfl) (Nat.le_of_ble_eq_true rfl) ?_
  refine lv_aload_n hx hb dX2_init_4 rfl (lv_at hl 0 rfl) ?_
  refine lv_iconst (v := nI 3) hx hb dX2_init_5 (by decide) ?_
  refine gb_newq F hK hA hR 1 3 (by decide) rfl kl_X2_9 hK.2.2.1 rfl (N := 3) (by decide) (by decide) (by decide) (Nat.le_of_ble_eq_true rfl) (Nat.le_of_ble_eq_true rfl) (L' := [(0, .inr (2, [.int 0, .int 0, .int 0, .null, .null, .int 0, .null, .null, .null, .int 0, .null, .int 0])), (1, .inl (G.2 3, 3, qr (fun _ => none)))]) rfl dX2_init_6 (fun q1 H hR => ?_)
  refine gb_putF F hK hR 0 (by decide) rfl rfl rfl inX2 tyX2 tyX2_ok nmX2 4 (by decide) fl_X2_11 rfl hnm rfl (ty := tyX2 4) rfl (rfl) (rfl) (Nat.le_of_ble_eq_true rfl) (L' := [(0, .inr (2, [.int 0, .int 0, .int 0, .null, .ref (q1), .int 0, .null, .null, .null, .int 0, .null, .int 0])), (1, .inl (G.2 3, 3, qr (fun _ => none)))]) rfl dX2_init_9 (fun H locs hR => ?_)
  refine lv_aload_n hx hb dX2_init_12 rfl (lv_at hl 0 rfl) ?_
  refine lv_iconst (v := nI 0) hx hb dX2_init_13 (by decide) ?_
  refine gb_put F hK hR 0 (by decide) rfl rfl rfl inX2 tyX2 tyX2_ok nmX2 5 (by decide) fl_X2_15 rfl (ty := tyX2 5) rfl (rfl) (rfl) (Nat.le_of_ble_eq_true rfl) (L' := [(0, .inr (2, [.int 0, .int 0, .int 0, .null, .ref (q1), .int (nI 0), .null, .null, .null, .int 0, .null, .int 0])), (1, .inl (G.2 3, 3, qr (fun _ => none)))]) rfl dX2_init_14 (fun H locs hR => ?_)
  refine lv_aload_n hx hb dX2_init_17 rfl (lv_at hl 0 rfl) ?_
  refine lv_iconst (v := nI 4) hx hb dX2_init_18 (by decide) ?_
  refine gb_newa F hK hA hR 2 0 (by decide) rfl (atype := .int) ac_int rfl na_int (N := 4) (f := fun _ => 0) nf_int (by decide) (by decide) (by decide) (Nat.le_of_ble_eq_true rfl) (Nat.le_of_ble_eq_true rfl) (L' := [(0, .inr (2, [.int 0, .int 0, .int 0, .null, .ref (q1), .int (nI 0), .null, .null, .null, .int 0, .null, .int 0])), (1, .inl (G.2 3, 3, qr (fun _ => none))), (2, .inl (G.2 0, 4, .inl (fun _ => 0)))]) rfl dX2_init_19 (fun q2 H hR => ?_)
  refine gb_putF F hK hR 0 (by decide) rfl rfl rfl inX2 tyX2 tyX2_ok nmX2 6 (by decide) fl_X2_19 rfl hnm rfl (ty := tyX2 6) rfl (rfl) (rfl) (Nat.le_of_ble_eq_true rfl) (L' := [(0, .inr (2, [.int 0, .int 0, .int 0, .null, .ref (q1), .int (nI 0), .ref (q2), .null, .null, .int 0, .null, .int 0])), (1, .inl (G.2 3, 3, qr (fun _ => none))), (2, .inl (G.2 0, 4, .inl (fun _ => 0)))]) rfl dX2_init_21 (fun H locs hR => ?_)
  refine lv_aload_n hx hb dX2_init_24 rfl (lv_at hl 0 rfl) ?_
  refine lv_iconst (v := nI 4) hx hb dX2_init_25 (by decide) ?_
  refine gb_newa F hK hA hR 3 1 (by decide) rfl (atype := .boolean) ac_boolean rfl na_boolean (N := 4) (f := fun _ => 0) nf_boolean (by decide) (by decide) (by decide) (Nat.le_of_ble_eq_true rfl) (Nat.le_of_ble_eq_true rfl) (L' := [(0, .inr (2, [.int 0, .int 0, .int 0, .null, .ref (q1), .int (nI 0), .ref (q2), .null, .null, .int 0, .null, .int 0])), (1, .inl (G.2 3, 3, qr (fun _ => none))), (2, .inl (G.2 0, 4, .inl (fun _ => 0))), (3, .inl (G.2 1, 4, .inl (fun _ => 0)))]) rfl dX2_init_26 (fun q3 H hR => ?_)
  refine gb_putF F hK hR 0 (by decide) rfl rfl rfl inX2 tyX2 tyX2_ok nmX2 7 (by decide) fl_X2_23 rfl hnm rfl (ty := tyX2 7) rfl (rfl) (rfl) (Nat.le_of_ble_eq_true rfl) (L' := [(0, .inr (2, [.int 0, .int 0, .int 0, .null, .ref (q1), .int (nI 0), .ref (q2), .ref (q3), .null, .int 0, .null, .int 0])), (1, .inl (G.2 3, 3, qr (fun _ => none))), (2, .inl (G.2 0, 4, .inl (fun _ => 0))), (3, .inl (G.2 1, 4, .inl (fun _ => 0)))]) rfl dX2_init_28 (fun H locs hR => ?_)
  refine lv_aload_n hx hb dX2_init_31 rfl (lv_at hl 0 rfl) ?_
  refine lv_bipush (v := nI 20) hx hb dX2_init_32 (by decide) ?_
  refine gb_newa F hK hA hR 4 0 (by decide) rfl (atype := .int) ac_int rfl na_int (N := 20) (f := fun _ => 0) nf_int (by decide) (by decide) (by decide) (Nat.le_of_ble_eq_true rfl) (Nat.le_of_ble_eq_true rfl) (L' := [(0, .inr (2, [.int 0, .int 0, .int 0, .null, .ref (q1), .int (nI 0), .ref (q2), .ref (q3), .null, .int 0, .null, .int 0])), (1, .inl (G.2 3, 3, qr (fun _ => none))), (2, .inl (G.2 0, 4, .inl (fun _ => 0))), (3, .inl (G.2 1, 4, .inl (fun _ => 0))), (4, .inl (G.2 0, 20, .inl (fun _ => 0)))]) rfl dX2_init_34 (fun q4 H hR => ?_)
  refine gb_putF F hK hR 0 (by decide) rfl rfl rfl inX2 tyX2 tyX2_ok nmX2 8 (by decide) fl_X2_27 rfl hnm rfl (ty := tyX2 8) rfl (rfl) (rfl) (Nat.le_of_ble_eq_true rfl) (L' := [(0, .inr (2, [.int 0, .int 0, .int 0, .null, .ref (q1), .int (nI 0), .ref (q2), .ref (q3), .ref (q4), .int 0, .null, .int 0])), (1, .inl (G.2 3, 3, qr (fun _ => none))), (2, .inl (G.2 0, 4, .inl (fun _ => 0))), (3, .inl (G.2 1, 4, .inl (fun _ => 0))), (4, .inl (G.2 0, 20, .inl (fun _ => 0)))]) rfl dX2_init_36 (fun H locs hR => ?_)
  refine lv_aload_n hx hb dX2_init_39 rfl (lv_at hl 0 rfl) ?_
  refine lv_iconst (v := (-1)) hx hb dX2_init_40 (by decide) ?_
  refine gb_put F hK hR 0 (by decide) rfl rfl rfl inX2 tyX2 tyX2_ok nmX2 9 (by decide) fl_X2_30 rfl (ty := tyX2 9) rfl (rfl) (rfl) (Nat.le_of_ble_eq_true rfl) (L' := [(0, .inr (2, [.int 0, .int 0, .int 0, .null, .ref (q1), .int (nI 0), .ref (q2), .ref (q3), .ref (q4), .int (-1), .null, .int 0])), (1, .inl (G.2 3, 3, qr (fun _ => none))), (2, .inl (G.2 0, 4, .inl (fun _ => 0))), (3, .inl (G.2 1, 4, .inl (fun _ => 0))), (4, .inl (G.2 0, 20, .inl (fun _ => 0)))]) rfl dX2_init_41 (fun H locs hR => ?_)
  refine lv_aload_n hx hb dX2_init_44 rfl (lv_at hl 0 rfl) ?_
  refine lv_iconst (v := nI 4) hx hb dX2_init_45 (by decide) ?_
  refine gb_newq F hK hA hR 5 4 (by decide) rfl kl_X2_33 hK.2.2.2 rfl (N := 4) (by decide) (by decide) (by decide) (Nat.le_of_ble_eq_true rfl) (Nat.le_of_ble_eq_true rfl) (L' := [(0, .inr (2, [.int 0, .int 0, .int 0, .null, .ref (q1), .int (nI 0), .ref (q2), .ref (q3), .ref (q4), .int (-1), .null, .int 0])), (1, .inl (G.2 3, 3, qr (fun _ => none))), (2, .inl (G.2 0, 4, .inl (fun _ => 0))), (3, .inl (G.2 1, 4, .inl (fun _ => 0))), (4, .inl (G.2 0, 20, .inl (fun _ => 0))), (5, .inl (G.2 4, 4, qr (fun _ => none)))]) rfl dX2_init_46 (fun q5 H hR => ?_)
  refine gb_putF F hK hR 0 (by decide) rfl rfl rfl inX2 tyX2 tyX2_ok nmX2 10 (by decide) fl_X2_35 rfl hnm rfl (ty := tyX2 10) rfl (rfl) (rfl) (Nat.le_of_ble_eq_true rfl) (L' := [(0, .inr (2, [.int 0, .int 0, .int 0, .null, .ref (q1), .int (nI 0), .ref (q2), .ref (q3), .ref (q4), .int (-1), .ref (q5), .int 0])), (1, .inl (G.2 3, 3, qr (fun _ => none))), (2, .inl (G.2 0, 4, .inl (fun _ => 0))), (3, .inl (G.2 1, 4, .inl (fun _ => 0))), (4, .inl (G.2 0, 20, .inl (fun _ => 0))), (5, .inl (G.2 4, 4, qr (fun _ => none)))]) rfl dX2_init_49 (fun H locs hR => ?_)
  refine lv_aload_n hx hb dX2_init_52 rfl (lv_at hl 0 rfl) ?_
  refine lv_iconst (v := nI 0) hx hb dX2_init_53 (by decide) ?_
  refine gb_put F hK hR 0 (by decide) rfl rfl rfl inX2 tyX2 tyX2_ok nmX2 11 (by decide) fl_X2_39 rfl (ty := tyX2 11) rfl (rfl) (rfl) (Nat.le_of_ble_eq_true rfl) (L' := [(0, .inr (2, [.int 0, .int 0, .int 0, .null, .ref (q1), .int (nI 0), .ref (q2), .ref (q3), .ref (q4), .int (-1), .ref (q5), .int (nI 0)])), (1, .inl (G.2 3, 3, qr (fun _ => none))), (2, .inl (G.2 0, 4, .inl (fun _ => 0))), (3, .inl (G.2 1, 4, .inl (fun _ => 0))), (4, .inl (G.2 0, 20, .inl (fun _ => 0))), (5, .inl (G.2 4, 4, qr (fun _ => none)))]) rfl dX2_init_54 (fun H locs hR => ?_)
  refine lv_aload_n hx hb dX2_init_57 rfl (lv_at hl 0 rfl) ?_
  refine lv_iload_n hx hb dX2_init_58 rfl (lv_at hl 1 rfl) ?_
  refine gb_putF F hK hR 0 (by decide) rfl rfl rfl inX2 tyX2 tyX2_ok nmX2 0 (by decide) fl_X2_42 rfl hnm rfl (ty := tyX2 0) rfl (rfl) (rfl) (Nat.le_of_ble_eq_true rfl) (L' := [(0, .inr (2, [.int (nI n), .int 0, .int 0, .null, .ref (q1), .int (nI 0), .ref (q2), .ref (q3), .ref (q4), .int (-1), .ref (q5), .int (nI 0)])), (1, .inl (G.2 3, 3, qr (fun _ => none))), (2, .inl (G.2 0, 4, .inl (fun _ => 0))), (3, .inl (G.2 1, 4, .inl (fun _ => 0))), (4, .inl (G.2 0, 20, .inl (fun _ => 0))), (5, .inl (G.2 4, 4, qr (fun _ => none)))]) rfl dX2_init_59 (fun H locs hR => ?_)
  refine lv_aload_n hx hb dX2_init_62 rfl (lv_at hl 0 rfl) ?_
  refine lv_iload_n hx hb dX2_init_63 rfl (lv_at hl 2 rfl) ?_
  refine gb_putF F hK hR 0 (by decide) rfl rfl rfl inX2 tyX2 tyX2_ok nmX2 1 (by decide) fl_X2_45 rfl hnm rfl (ty := tyX2 1) rfl (by rcases hfa with rfl | rfl <;> rfl) (by rcases hfa with rfl | rfl <;> rfl) (Nat.le_of_ble_eq_true rfl) (L' := [(0, .inr (2, [.int (nI n), .int fa, .int 0, .null, .ref (q1), .int (nI 0), .ref (q2), .ref (q3), .ref (q4), .int (-1), .ref (q5), .int (nI 0)])), (1, .inl (G.2 3, 3, qr (fun _ => none))), (2, .inl (G.2 0, 4, .inl (fun _ => 0))), (3, .inl (G.2 1, 4, .inl (fun _ => 0))), (4, .inl (G.2 0, 20, .inl (fun _ => 0))), (5, .inl (G.2 4, 4, qr (fun _ => none)))]) rfl dX2_init_64 (fun H locs hR => ?_)
  refine lv_aload_n hx hb dX2_init_67 rfl (lv_at hl 0 rfl) ?_
  refine lv_iload_n hx hb dX2_init_68 rfl (lv_at hl 3 rfl) ?_
  refine gb_putF F hK hR 0 (by decide) rfl rfl rfl inX2 tyX2 tyX2_ok nmX2 2 (by decide) fl_X2_49 rfl hnm rfl (ty := tyX2 2) rfl (by rcases hde with rfl | rfl <;> rfl) (by rcases hde with rfl | rfl <;> rfl) (Nat.le_of_ble_eq_true rfl) (L' := [(0, .inr (2, [.int (nI n), .int fa, .int de, .null, .ref (q1), .int (nI 0), .ref (q2), .ref (q3), .ref (q4), .int (-1), .ref (q5), .int (nI 0)])), (1, .inl (G.2 3, 3, qr (fun _ => none))), (2, .inl (G.2 0, 4, .inl (fun _ => 0))), (3, .inl (G.2 1, 4, .inl (fun _ => 0))), (4, .inl (G.2 0, 20, .inl (fun _ => 0))), (5, .inl (G.2 4, 4, qr (fun _ => none)))]) rfl dX2_init_69 (fun H locs hR => ?_)
  refine lv_aload_n hx hb dX2_init_72 rfl (lv_at hl 0 rfl) ?_
  refine lv_aload hx hb dX2_init_73 (lv_at hl 4 rfl) ?_
  refine gb_putF F hK hR 0 (by decide) rfl rfl rfl inX2 tyX2 tyX2_ok nmX2 3 (by decide) fl_X2_52 rfl hnm rfl (ty := tyX2 3) rfl (rfl) (rfl) (Nat.le_of_ble_eq_true rfl) (L' := [(0, .inr (2, [.int (nI n), .int fa, .int de, .ref (z), .ref (q1), .int (nI 0), .ref (q2), .ref (q3), .ref (q4), .int (-1), .ref (q5), .int (nI 0)])), (1, .inl (G.2 3, 3, qr (fun _ => none))), (2, .inl (G.2 0, 4, .inl (fun _ => 0))), (3, .inl (G.2 1, 4, .inl (fun _ => 0))), (4, .inl (G.2 0, 20, .inl (fun _ => 0))), (5, .inl (G.2 4, 4, qr (fun _ => none)))]) rfl dX2_init_75 (fun H locs hR => ?_)
  refine lv_iconst (v := nI 0) hx hb dX2_init_78 (by decide) ?_
  refine lv_istore (lv' := [(5, .int (nI 0)), (0, .ref (r)), (1, .int (nI n)), (2, .int fa), (3, .int de), (4, .ref (z))]) hx hb dX2_init_79 hl (by decide) rfl (fun ls hl => ?_)
  refine lv_iload hx hb dX2_init_81 (lv_at hl 0 rfl) ?_
  refine lv_iconst (v := nI 4) hx hb dX2_init_83 (by decide) ?_
  refine nv_icmp_ge (by omega) (by omega) hx hb dX2_init_84 (tgt := 113) (by decide) (fun c_84 => absurd c_84 (by omega)) (fun c_84 => ?_)
  refine lv_aload_n hx hb dX2_init_87 rfl (lv_at hl 1 rfl) ?_
  refine gb_get F hK hR 0 (by decide) rfl rfl rfl inX2 10 (by decide) fl_X2_35 rfl dX2_init_88 ?_
  refine lv_iload hx hb dX2_init_91 (lv_at hl 0 rfl) ?_
  refine gb_new F hK hA hR 6 4 (by decide) rfl rfl inX4 tyX4 tyX4_ok kl_X2_33 ia_X4 in_X4 (fs := [.int 0, .null, .int 0]) (by decide +kernel) (Nat.le_of_ble_eq_true rfl) (Nat.le_of_ble_eq_true rfl) (L' := [(0, .inr (2, [.int (nI n), .int fa, .int de, .ref (z), .ref (q1), .int (nI 0), .ref (q2), .ref (q3), .ref (q4), .int (-1), .ref (q5), .int (nI 0)])), (1, .inl (G.2 3, 3, qr (fun _ => none))), (2, .inl (G.2 0, 4, .inl (fun _ => 0))), (3, .inl (G.2 1, 4, .inl (fun _ => 0))), (4, .inl (G.2 0, 20, .inl (fun _ => 0))), (5, .inl (G.2 4, 4, qr (fun _ => none))), (6, .inr (4, [.int 0, .null, .int 0]))]) rfl dX2_init_93 (fun q6 H hR => ?_)
  refine lv_dup hx hb dX2_init_96 rfl ?_
  refine lv_iload_n hx hb dX2_init_97 rfl (lv_at hl 2 rfl) ?_
  refine lv_iconst (v := nI 4) hx hb dX2_init_98 (by decide) ?_
  refine nv_imul hx hb dX2_init_99 ?_
  refine lv_iload hx hb dX2_init_100 (lv_at hl 0 rfl) ?_
  refine nv_iadd hx hb dX2_init_102 ?_
  refine gcI (As := [.int (nI (n * 4 + 0))]) F hK hA hR hml ci_X2_56 (c_X4_init l G A adr cel b 60 _ _ q6 6 10 (nI (n * 4 + 0)) _ _ _ (by decide) (by decide) (by decide) rfl rfl rfl) ⟨rfl, rfl⟩ ⟨Nat.le_of_ble_eq_true rfl, Nat.le_of_ble_eq_true rfl⟩ rfl rfl hl.1 (Nat.le_of_ble_eq_true rfl) dX2_init_103 ⟨Nat.le_of_ble_eq_true rfl, Nat.le_of_ble_eq_true rfl⟩ (fun U H locs hU hP hS => ?_)
  obtain ⟨q10, hP⟩ := hP
  replace hR : gw_B G A (bN b 60 [(10, q10), (6, q6), (5, q5), (4, q4), (3, q3), (2, q2), (1, q1), (0, r)] adr) (bC b 60 [(0, .inr (2, [.int (nI n), .int fa, .int de, .ref (z), .ref (q1), .int (nI 0), .ref (q2), .ref (q3), .ref (q4), .int (-1), .ref (q5), .int (nI 0)])), (1, .inl (G.2 3, 3, qr (fun _ => none))), (2, .inl (G.2 0, 4, .inl (fun _ => 0))), (3, .inl (G.2 1, 4, .inl (fun _ => 0))), (4, .inl (G.2 0, 20, .inl (fun _ => 0))), (5, .inl (G.2 4, 4, qr (fun _ => none))), (6, .inr (4, [.int (nI (n * 4 + 0)), .ref q10, .int (nI 0)])), (10, .inl (G.2 2, 10, qr (fun _ => none)))] cel) s.heap H locs := gW_back hP hU hS
  clear hP hU hS
  refine gb_aast F hK hR 5 4 (by decide) (r := (RX4, TX4, 3)) rfl rfl 6 4 (by decide) rfl rfl rfl rfl (by decide) (by decide) (by decide) (L' := [(0, .inr (2, [.int (nI n), .int fa, .int de, .ref (z), .ref (q1), .int (nI 0), .ref (q2), .ref (q3), .ref (q4), .int (-1), .ref (q5), .int (nI 0)])), (1, .inl (G.2 3, 3, qr (fun _ => none))), (2, .inl (G.2 0, 4, .inl (fun _ => 0))), (3, .inl (G.2 1, 4, .inl (fun _ => 0))), (4, .inl (G.2 0, 20, .inl (fun _ => 0))), (5, .inl (G.2 4, 4, qr (va_up (fun _ => none) 0 (some q6)))), (6, .inr (4, [.int (nI (n * 4 + 0)), .ref q10, .int (nI 0)])), (10, .inl (G.2 2, 10, qr (fun _ => none)))]) rfl dX2_init_106 (fun H locs hR => ?_)
  refine lv_iinc (v := nI 1) (lv' := [(5, .int (nI 1)), (0, .ref (r)), (1, .int (nI n)), (2, .int fa), (3, .int de), (4, .ref (z))]) hx hb dX2_init_107 hl (k := 0) rfl (nI_add _ _) (by decide) rfl (fun ls hl => ?_)
  refine lv_goto (tgt := 81) hx hb dX2_init_110 (by decide) ?_
  refine lv_iload hx hb dX2_init_81 (lv_at hl 0 rfl) ?_
  refine lv_iconst (v := nI 4) hx hb dX2_init_83 (by decide) ?_
  refine nv_icmp_ge (by omega) (by omega) hx hb dX2_init_84 (tgt := 113) (by decide) (fun c_84 => absurd c_84 (by omega)) (fun c_84 => ?_)
  refine lv_aload_n hx hb dX2_init_87 rfl (lv_at hl 1 rfl) ?_
  refine gb_get F hK hR 0 (by decide) rfl rfl rfl inX2 10 (by decide) fl_X2_35 rfl dX2_init_88 ?_
  refine lv_iload hx hb dX2_init_91 (lv_at hl 0 rfl) ?_
  refine gb_new F hK hA hR 7 4 (by decide) rfl rfl inX4 tyX4 tyX4_ok kl_X2_33 ia_X4 in_X4 (fs := [.int 0, .null, .int 0]) (by decide +kernel) (Nat.le_of_ble_eq_true rfl) (Nat.le_of_ble_eq_true rfl) (L' := [(0, .inr (2, [.int (nI n), .int fa, .int de, .ref (z), .ref (q1), .int (nI 0), .ref (q2), .ref (q3), .ref (q4), .int (-1), .ref (q5), .int (nI 0)])), (1, .inl (G.2 3, 3, qr (fun _ => none))), (2, .inl (G.2 0, 4, .inl (fun _ => 0))), (3, .inl (G.2 1, 4, .inl (fun _ => 0))), (4, .inl (G.2 0, 20, .inl (fun _ => 0))), (5, .inl (G.2 4, 4, qr (va_up (fun _ => none) 0 (some q6)))), (6, .inr (4, [.int (nI (n * 4 + 0)), .ref q10, .int (nI 0)])), (10, .inl (G.2 2, 10, qr (fun _ => none))), (7, .inr (4, [.int 0, .null, .int 0]))]) rfl dX2_init_93 (fun q7 H hR => ?_)
  refine lv_dup hx hb dX2_init_96 rfl ?_
  refine lv_iload_n hx hb dX2_init_97 rfl (lv_at hl 2 rfl) ?_
  refine lv_iconst (v := nI 4) hx hb dX2_init_98 (by decide) ?_
  refine nv_imul hx hb dX2_init_99 ?_
  refine lv_iload hx hb dX2_init_100 (lv_at hl 0 rfl) ?_
  refine nv_iadd hx hb dX2_init_102 ?_
  refine gcI (As := [.int (nI (n * 4 + 1))]) F hK hA hR hml ci_X2_56 (c_X4_init l G A adr cel b 60 _ _ q7 7 11 (nI (n * 4 + 1)) _ _ _ (by decide) (by decide) (by decide) rfl rfl rfl) ⟨rfl, rfl⟩ ⟨Nat.le_of_ble_eq_true rfl, Nat.le_of_ble_eq_true rfl⟩ rfl rfl hl.1 (Nat.le_of_ble_eq_true rfl) dX2_init_103 ⟨Nat.le_of_ble_eq_true rfl, Nat.le_of_ble_eq_true rfl⟩ (fun U H locs hU hP hS => ?_)
  obtain ⟨q11, hP⟩ := hP
  replace hR : gw_B G A (bN b 60 [(11, q11), (7, q7), (10, q10), (6, q6), (5, q5), (4, q4), (3, q3), (2, q2), (1, q1), (0, r)] adr) (bC b 60 [(0, .inr (2, [.int (nI n), .int fa, .int de, .ref (z), .ref (q1), .int (nI 0), .ref (q2), .ref (q3), .ref (q4), .int (-1), .ref (q5), .int (nI 0)])), (1, .inl (G.2 3, 3, qr (fun _ => none))), (2, .inl (G.2 0, 4, .inl (fun _ => 0))), (3, .inl (G.2 1, 4, .inl (fun _ => 0))), (4, .inl (G.2 0, 20, .inl (fun _ => 0))), (5, .inl (G.2 4, 4, qr (va_up (fun _ => none) 0 (some q6)))), (6, .inr (4, [.int (nI (n * 4 + 0)), .ref q10, .int (nI 0)])), (10, .inl (G.2 2, 10, qr (fun _ => none))), (7, .inr (4, [.int (nI (n * 4 + 1)), .ref q11, .int (nI 0)])), (11, .inl (G.2 2, 10, qr (fun _ => none)))] cel) s.heap H locs := gW_back hP hU hS
  clear hP hU hS
  refine gb_aast F hK hR 5 4 (by decide) (r := (RX4, TX4, 3)) rfl rfl 7 4 (by decide) rfl rfl rfl rfl (by decide) (by decide) (by decide) (L' := [(0, .inr (2, [.int (nI n), .int fa, .int de, .ref (z), .ref (q1), .int (nI 0), .ref (q2), .ref (q3), .ref (q4), .int (-1), .ref (q5), .int (nI 0)])), (1, .inl (G.2 3, 3, qr (fun _ => none))), (2, .inl (G.2 0, 4, .inl (fun _ => 0))), (3, .inl (G.2 1, 4, .inl (fun _ => 0))), (4, .inl (G.2 0, 20, .inl (fun _ => 0))), (5, .inl (G.2 4, 4, qr (va_up (va_up (fun _ => none) 0 (some q6)) 1 (some q7)))), (6, .inr (4, [.int (nI (n * 4 + 0)), .ref q10, .int (nI 0)])), (10, .inl (G.2 2, 10, qr (fun _ => none))), (7, .inr (4, [.int (nI (n * 4 + 1)), .ref q11, .int (nI 0)])), (11, .inl (G.2 2, 10, qr (fun _ => none)))]) rfl dX2_init_106 (fun H locs hR => ?_)
  refine lv_iinc (v := nI 2) (lv' := [(5, .int (nI 2)), (0, .ref (r)), (1, .int (nI n)), (2, .int fa), (3, .int de), (4, .ref (z))]) hx hb dX2_init_107 hl (k := 0) rfl (nI_add _ _) (by decide) rfl (fun ls hl => ?_)
  refine lv_goto (tgt := 81) hx hb dX2_init_110 (by decide) ?_
  refine lv_iload hx hb dX2_init_81 (lv_at hl 0 rfl) ?_
  refine lv_iconst (v := nI 4) hx hb dX2_init_83 (by decide) ?_
  refine nv_icmp_ge (by omega) (by omega) hx hb dX2_init_84 (tgt := 113) (by decide) (fun c_84 => absurd c_84 (by omega)) (fun c_84 => ?_)
  refine lv_aload_n hx hb dX2_init_87 rfl (lv_at hl 1 rfl) ?_
  refine gb_get F hK hR 0 (by decide) rfl rfl rfl inX2 10 (by decide) fl_X2_35 rfl dX2_init_88 ?_
  refine lv_iload hx hb dX2_init_91 (lv_at hl 0 rfl) ?_
  refine gb_new F hK hA hR 8 4 (by decide) rfl rfl inX4 tyX4 tyX4_ok kl_X2_33 ia_X4 in_X4 (fs := [.int 0, .null, .int 0]) (by decide +kernel) (Nat.le_of_ble_eq_true rfl) (Nat.le_of_ble_eq_true rfl) (L' := [(0, .inr (2, [.int (nI n), .int fa, .int de, .ref (z), .ref (q1), .int (nI 0), .ref (q2), .ref (q3), .ref (q4), .int (-1), .ref (q5), .int (nI 0)])), (1, .inl (G.2 3, 3, qr (fun _ => none))), (2, .inl (G.2 0, 4, .inl (fun _ => 0))), (3, .inl (G.2 1, 4, .inl (fun _ => 0))), (4, .inl (G.2 0, 20, .inl (fun _ => 0))), (5, .inl (G.2 4, 4, qr (va_up (va_up (fun _ => none) 0 (some q6)) 1 (some q7)))), (6, .inr (4, [.int (nI (n * 4 + 0)), .ref q10, .int (nI 0)])), (10, .inl (G.2 2, 10, qr (fun _ => none))), (7, .inr (4, [.int (nI (n * 4 + 1)), .ref q11, .int (nI 0)])), (11, .inl (G.2 2, 10, qr (fun _ => none))), (8, .inr (4, [.int 0, .null, .int 0]))]) rfl dX2_init_93 (fun q8 H hR => ?_)
  refine lv_dup hx hb dX2_init_96 rfl ?_
  refine lv_iload_n hx hb dX2_init_97 rfl (lv_at hl 2 rfl) ?_
  refine lv_iconst (v := nI 4) hx hb dX2_init_98 (by decide) ?_
  refine nv_imul hx hb dX2_init_99 ?_
  refine lv_iload hx hb dX2_init_100 (lv_at hl 0 rfl) ?_
  refine nv_iadd hx hb dX2_init_102 ?_
  refine gcI (As := [.int (nI (n * 4 + 2))]) F hK hA hR hml ci_X2_56 (c_X4_init l G A adr cel b 60 _ _ q8 8 12 (nI (n * 4 + 2)) _ _ _ (by decide) (by decide) (by decide) rfl rfl rfl) ⟨rfl, rfl⟩ ⟨Nat.le_of_ble_eq_true rfl, Nat.le_of_ble_eq_true rfl⟩ rfl rfl hl.1 (Nat.le_of_ble_eq_true rfl) dX2_init_103 ⟨Nat.le_of_ble_eq_true rfl, Nat.le_of_ble_eq_true rfl⟩ (fun U H locs hU hP hS => ?_)
  obtain ⟨q12, hP⟩ := hP
  replace hR : gw_B G A (bN b 60 [(12, q12), (8, q8), (11, q11), (7, q7), (10, q10), (6, q6), (5, q5), (4, q4), (3, q3), (2, q2), (1, q1), (0, r)] adr) (bC b 60 [(0, .inr (2, [.int (nI n), .int fa, .int de, .ref (z), .ref (q1), .int (nI 0), .ref (q2), .ref (q3), .ref (q4), .int (-1), .ref (q5), .int (nI 0)])), (1, .inl (G.2 3, 3, qr (fun _ => none))), (2, .inl (G.2 0, 4, .inl (fun _ => 0))), (3, .inl (G.2 1, 4, .inl (fun _ => 0))), (4, .inl (G.2 0, 20, .inl (fun _ => 0))), (5, .inl (G.2 4, 4, qr (va_up (va_up (fun _ => none) 0 (some q6)) 1 (some q7)))), (6, .inr (4, [.int (nI (n * 4 + 0)), .ref q10, .int (nI 0)])), (10, .inl (G.2 2, 10, qr (fun _ => none))), (7, .inr (4, [.int (nI (n * 4 + 1)), .ref q11, .int (nI 0)])), (11, .inl (G.2 2, 10, qr (fun _ => none))), (8, .inr (4, [.int (nI (n * 4 + 2)), .ref q12, .int (nI 0)])), (12, .inl (G.2 2, 10, qr (fun _ => none)))] cel) s.heap H locs := gW_back hP hU hS
  clear hP hU hS
  refine gb_aast F hK hR 5 4 (by decide) (r := (RX4, TX4, 3)) rfl rfl 8 4 (by decide) rfl rfl rfl rfl (by decide) (by decide) (by decide) (L' := [(0, .inr (2, [.int (nI n), .int fa, .int de, .ref (z), .ref (q1), .int (nI 0), .ref (q2), .ref (q3), .ref (q4), .int (-1), .ref (q5), .int (nI 0)])), (1, .inl (G.2 3, 3, qr (fun _ => none))), (2, .inl (G.2 0, 4, .inl (fun _ => 0))), (3, .inl (G.2 1, 4, .inl (fun _ => 0))), (4, .inl (G.2 0, 20, .inl (fun _ => 0))), (5, .inl (G.2 4, 4, qr (va_up (va_up (va_up (fun _ => none) 0 (some q6)) 1 (some q7)) 2 (some q8)))), (6, .inr (4, [.int (nI (n * 4 + 0)), .ref q10, .int (nI 0)])), (10, .inl (G.2 2, 10, qr (fun _ => none))), (7, .inr (4, [.int (nI (n * 4 + 1)), .ref q11, .int (nI 0)])), (11, .inl (G.2 2, 10, qr (fun _ => none))), (8, .inr (4, [.int (nI (n * 4 + 2)), .ref q12, .int (nI 0)])), (12, .inl (G.2 2, 10, qr (fun _ => none)))]) rfl dX2_init_106 (fun H locs hR => ?_)
  refine lv_iinc (v := nI 3) (lv' := [(5, .int (nI 3)), (0, .ref (r)), (1, .int (nI n)), (2, .int fa), (3, .int de), (4, .ref (z))]) hx hb dX2_init_107 hl (k := 0) rfl (nI_add _ _) (by decide) rfl (fun ls hl => ?_)
  refine lv_goto (tgt := 81) hx hb dX2_init_110 (by decide) ?_
  refine lv_iload hx hb dX2_init_81 (lv_at hl 0 rfl) ?_
  refine lv_iconst (v := nI 4) hx hb dX2_init_83 (by decide) ?_
  refine nv_icmp_ge (by omega) (by omega) hx hb dX2_init_84 (tgt := 113) (by decide) (fun c_84 => absurd c_84 (by omega)) (fun c_84 => ?_)
  refine lv_aload_n hx hb dX2_init_87 rfl (lv_at hl 1 rfl) ?_
  refine gb_get F hK hR 0 (by decide) rfl rfl rfl inX2 10 (by decide) fl_X2_35 rfl dX2_init_88 ?_
  refine lv_iload hx hb dX2_init_91 (lv_at hl 0 rfl) ?_
  refine gb_new F hK hA hR 9 4 (by decide) rfl rfl inX4 tyX4 tyX4_ok kl_X2_33 ia_X4 in_X4 (fs := [.int 0, .null, .int 0]) (by decide +kernel) (Nat.le_of_ble_eq_true rfl) (Nat.le_of_ble_eq_true rfl) (L' := [(0, .inr (2, [.int (nI n), .int fa, .int de, .ref (z), .ref (q1), .int (nI 0), .ref (q2), .ref (q3), .ref (q4), .int (-1), .ref (q5), .int (nI 0)])), (1, .inl (G.2 3, 3, qr (fun _ => none))), (2, .inl (G.2 0, 4, .inl (fun _ => 0))), (3, .inl (G.2 1, 4, .inl (fun _ => 0))), (4, .inl (G.2 0, 20, .inl (fun _ => 0))), (5, .inl (G.2 4, 4, qr (va_up (va_up (va_up (fun _ => none) 0 (some q6)) 1 (some q7)) 2 (some q8)))), (6, .inr (4, [.int (nI (n * 4 + 0)), .ref q10, .int (nI 0)])), (10, .inl (G.2 2, 10, qr (fun _ => none))), (7, .inr (4, [.int (nI (n * 4 + 1)), .ref q11, .int (nI 0)])), (11, .inl (G.2 2, 10, qr (fun _ => none))), (8, .inr (4, [.int (nI (n * 4 + 2)), .ref q12, .int (nI 0)])), (12, .inl (G.2 2, 10, qr (fun _ => none))), (9, .inr (4, [.int 0, .null, .int 0]))]) rfl dX2_init_93 (fun q9 H hR => ?_)
  refine lv_dup hx hb dX2_init_96 rfl ?_
  refine lv_iload_n hx hb dX2_init_97 rfl (lv_at hl 2 rfl) ?_
  refine lv_iconst (v := nI 4) hx hb dX2_init_98 (by decide) ?_
  refine nv_imul hx hb dX2_init_99 ?_
  refine lv_iload hx hb dX2_init_100 (lv_at hl 0 rfl) ?_
  refine nv_iadd hx hb dX2_init_102 ?_
  refine gcI (As := [.int (nI (n * 4 + 3))]) F hK hA hR hml ci_X2_56 (c_X4_init l G A adr cel b 60 _ _ q9 9 13 (nI (n * 4 + 3)) _ _ _ (by decide) (by decide) (by decide) rfl rfl rfl) ⟨rfl, rfl⟩ ⟨Nat.le_of_ble_eq_true rfl, Nat.le_of_ble_eq_true rfl⟩ rfl rfl hl.1 (Nat.le_of_ble_eq_true rfl) dX2_init_103 ⟨Nat.le_of_ble_eq_true rfl, Nat.le_of_ble_eq_true rfl⟩ (fun U H locs hU hP hS => ?_)
  obtain ⟨q13, hP⟩ := hP
  replace hR : gw_B G A (bN b 60 [(13, q13), (9, q9), (12, q12), (8, q8), (11, q11), (7, q7), (10, q10), (6, q6), (5, q5), (4, q4), (3, q3), (2, q2), (1, q1), (0, r)] adr) (bC b 60 [(0, .inr (2, [.int (nI n), .int fa, .int de, .ref (z), .ref (q1), .int (nI 0), .ref (q2), .ref (q3), .ref (q4), .int (-1), .ref (q5), .int (nI 0)])), (1, .inl (G.2 3, 3, qr (fun _ => none))), (2, .inl (G.2 0, 4, .inl (fun _ => 0))), (3, .inl (G.2 1, 4, .inl (fun _ => 0))), (4, .inl (G.2 0, 20, .inl (fun _ => 0))), (5, .inl (G.2 4, 4, qr (va_up (va_up (va_up (fun _ => none) 0 (some q6)) 1 (some q7)) 2 (some q8)))), (6, .inr (4, [.int (nI (n * 4 + 0)), .ref q10, .int (nI 0)])), (10, .inl (G.2 2, 10, qr (fun _ => none))), (7, .inr (4, [.int (nI (n * 4 + 1)), .ref q11, .int (nI 0)])), (11, .inl (G.2 2, 10, qr (fun _ => none))), (8, .inr (4, [.int (nI (n * 4 + 2)), .ref q12, .int (nI 0)])), (12, .inl (G.2 2, 10, qr (fun _ => none))), (9, .inr (4, [.int (nI (n * 4 + 3)), .ref q13, .int (nI 0)])), (13, .inl (G.2 2, 10, qr (fun _ => none)))] cel) s.heap H locs := gW_back hP hU hS
  clear hP hU hS
  refine gb_aast F hK hR 5 4 (by decide) (r := (RX4, TX4, 3)) rfl rfl 9 4 (by decide) rfl rfl rfl rfl (by decide) (by decide) (by decide) (L' := [(0, .inr (2, [.int (nI n), .int fa, .int de, .ref (z), .ref (q1), .int (nI 0), .ref (q2), .ref (q3), .ref (q4), .int (-1), .ref (q5), .int (nI 0)])), (1, .inl (G.2 3, 3, qr (fun _ => none))), (2, .inl (G.2 0, 4, .inl (fun _ => 0))), (3, .inl (G.2 1, 4, .inl (fun _ => 0))), (4, .inl (G.2 0, 20, .inl (fun _ => 0))), (5, .inl (G.2 4, 4, qr (va_up (va_up (va_up (va_up (fun _ => none) 0 (some q6)) 1 (some q7)) 2 (some q8)) 3 (some q9)))), (6, .inr (4, [.int (nI (n * 4 + 0)), .ref q10, .int (nI 0)])), (10, .inl (G.2 2, 10, qr (fun _ => none))), (7, .inr (4, [.int (nI (n * 4 + 1)), .ref q11, .int (nI 0)])), (11, .inl (G.2 2, 10, qr (fun _ => none))), (8, .inr (4, [.int (nI (n * 4 + 2)), .ref q12, .int (nI 0)])), (12, .inl (G.2 2, 10, qr (fun _ => none))), (9, .inr (4, [.int (nI (n * 4 + 3)), .ref q13, .int (nI 0)])), (13, .inl (G.2 2, 10, qr (fun _ => none)))]) rfl dX2_init_106 (fun H locs hR => ?_)
  refine lv_iinc (v := nI 4) (lv' := [(5, .int (nI 4)), (0, .ref (r)), (1, .int (nI n)), (2, .int fa), (3, .int de), (4, .ref (z))]) hx hb dX2_init_107 hl (k := 0) rfl (nI_add _ _) (by decide) rfl (fun ls hl => ?_)
  refine lv_goto (tgt := 81) hx hb dX2_init_110 (by decide) ?_
  refine lv_iload hx hb dX2_init_81 (lv_at hl 0 rfl) ?_
  refine lv_iconst (v := nI 4) hx hb dX2_init_83 (by decide) ?_
  refine nv_icmp_ge (by omega) (by omega) hx hb dX2_init_84 (tgt := 113) (by decide) (fun c_84 => ?_) (fun c_84 => absurd c_84 (by omega))
  exact gr_vP F hr hlk hK hR dX2_init_113 (fun t ht => ⟨q1, q2, q3, q4, q5, q6, q7, q8, q9, q10, q11, q12, q13, ht⟩)
