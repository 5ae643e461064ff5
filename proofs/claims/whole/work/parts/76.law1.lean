/-! THE LAW, 1: two worlds side by side -/
theorem arr_obj {s : State} {A : Array Value} {C : String} (h : (Cond.arrayOver (.object C)).before A s = true) : ∃ cA : ClassId, ArrOfT s cA (.object C) ∧ va_RA s cA (.object C) := by
  obtain ⟨comp, c, k, h1, h2, h3, h4, h5⟩ := Cond.arrayOver_spec h
  exact ⟨c, fun n z => ⟨fun k h => (by cases h), k, h3, comp, h4⟩, k, comp, h3, h4, h1, h5⟩
theorem arr_int {s : State} {A : Array Value} (h : (Cond.arrayClass .int).before A s = true) : ∃ cA : ClassId, ArrOfT s cA .int ∧ va_RA s cA .int := by
  obtain ⟨c, k, comp, h1, h2, h3⟩ := Cond.arrayClass_spec h
  exact ⟨c, fun n z => ⟨fun k h => (by cases h), k, h2, comp, h3⟩, h1⟩
theorem arr_boolean {s : State} {A : Array Value} (h : (Cond.arrayClass .boolean).before A s = true) : ∃ cA : ClassId, ArrOfT s cA .boolean ∧ va_RA s cA .boolean := by
  obtain ⟨c, k, comp, h1, h2, h3⟩ := Cond.arrayClass_spec h
  exact ⟨c, fun n z => ⟨fun k h => (by cases h), k, h2, comp, h3⟩, h1⟩
theorem ao_X2 : Cond.arrayOver (.object RX2) ∈ lw_tbl := mt_1 _ (List.mem_of_getElem? (i := 19) rfl)
theorem ao_X4 : Cond.arrayOver (.object RX4) ∈ lw_tbl := mt_1 _ (List.mem_of_getElem? (i := 83) rfl)
theorem ao_X0 : Cond.arrayOver (.object RX0) ∈ lw_tbl := mt_1 _ (List.mem_of_getElem? (i := 135) rfl)
theorem nw_X3 : Cond.methodLinkNest RX6 21 yX3_init "ClassStarts" ∈ lw_tbl := mt_1 _ (List.mem_of_getElem? (i := 22) rfl)
theorem nw_X1 : Cond.methodLinkNest RX3 11 yX1_init "ClassStarts" ∈ lw_tbl := mt_1 _ (List.mem_of_getElem? (i := 28) rfl)
theorem nw_X5 : Cond.methodLinkNest RX6 28 yX5_init "ClassStarts" ∈ lw_tbl := mt_1 _ (List.mem_of_getElem? (i := 78) rfl)
theorem law_N {s : State} {A : Array Value} (hts : ∀ w ∈ lw_tbl, w.before A s = true) : gNw s := ⟨va_tabs rfl rfl (hts _ nw_X3), va_tabs rfl rfl (hts _ nw_X1), va_tabs rfl rfl (hts _ nw_X5)⟩
theorem law_K {s : State} {A : Array Value} (hts : ∀ w ∈ lw_tbl, w.before A s = true) : ∃ G : gw_G, gw_K G s := by
  have hg : ∀ w ∈ gwA, w.before A s = true := fun w h => hts w (gWL w h)
  obtain ⟨c0, i0, k0⟩ := u_known (C := RX0) (T := TX0) (N := 6) hg inX0 (hg _ ia_X0)
  obtain ⟨c1, i1, k1⟩ := u_known (C := RX1) (T := TX1) (N := 8) hg inX1 (hg _ ia_X1)
  obtain ⟨c2, i2, k2⟩ := u_known (C := RX2) (T := TX2) (N := 12) hg inX2 (hg _ ia_X2)
  obtain ⟨c3, i3, k3⟩ := u_known (C := RX3) (T := TX3) (N := 1) hg inX3 (hg _ ia_X3)
  obtain ⟨c4, i4, k4⟩ := u_known (C := RX4) (T := TX4) (N := 3) hg inX4 (hg _ ia_X4)
  obtain ⟨c5, i5, k5⟩ := u_known (C := RX5) (T := TX5) (N := 4) hg inX5 (hg _ ia_X5)
  obtain ⟨c6, i6, k6⟩ := u_known (C := RX6) (T := TX6) (N := 4) hg inX6 (hg _ ia_X6)
  obtain ⟨c7, i7, k7⟩ := u_known (C := RX7) (T := TX7) (N := 34) hg inX7 (hg _ ia_X7)
  obtain ⟨g0, a0, r0⟩ := arr_int (hg _ ac_int)
  obtain ⟨g1, a1, r1⟩ := arr_boolean (hg _ ac_boolean)
  obtain ⟨g2, a2, r2⟩ := arr_obj (hts _ ao_X0)
  obtain ⟨g3, a3, r3⟩ := arr_obj (hts _ ao_X2)
  obtain ⟨g4, a4, r4⟩ := arr_obj (hts _ ao_X4)
  refine ⟨((fun k => match k with | 0 => c0 | 1 => c1 | 2 => c2 | 3 => c3 | 4 => c4 | 5 => c5 | 6 => c6 | _ => c7, fun k => match k with | 0 => i0 | 1 => i1 | 2 => i2 | 3 => i3 | 4 => i4 | 5 => i5 | 6 => i6 | _ => i7), fun k => match k with | 0 => g0 | 1 => g1 | 2 => g2 | 3 => g3 | _ => g4), ⟨?_, ?_⟩, va_AO.of (hts _ ao_X0), va_AO.of (hts _ ao_X2), va_AO.of (hts _ ao_X4)⟩
  · intro k q hq
    match k, hq with
    | 0, hq => cases hq; exact k0
    | 1, hq => cases hq; exact k1
    | 2, hq => cases hq; exact k2
    | 3, hq => cases hq; exact k3
    | 4, hq => cases hq; exact k4
    | 5, hq => cases hq; exact k5
    | 6, hq => cases hq; exact k6
    | 7, hq => cases hq; exact k7
    | k + 8, hq => simp [vwCl] at hq
  · intro k q hq
    match k, hq with
    | 0, hq => cases hq; exact ⟨a0, r0⟩
    | 1, hq => cases hq; exact ⟨a1, r1⟩
    | 2, hq => cases hq; exact ⟨a2, r2⟩
    | 3, hq => cases hq; exact ⟨a3, r3⟩
    | 4, hq => cases hq; exact ⟨a4, r4⟩
    | k + 5, hq => simp [gw_tys] at hq
/-- the names that the reference has -/
def rdm (k : Nat) : Prop := k = 0 ∨ ¬ rlen k = 0
theorem rcel_rdm {G : gw_G} {adr : Nat → Nat} {S X : Nat → Nat → Int32} {k : Nat} (h : rcel G adr S X k ≠ none) : rdm k := by
  unfold rcel at h
  by_cases c : k = 0
  · exact Or.inl c
  · rw [if_neg c] at h
    by_cases d : rlen k = 0
    · rw [if_pos d] at h; exact absurd rfl h
    · exact Or.inr d
theorem rdm_rcel {G : gw_G} {adr : Nat → Nat} {S X : Nat → Nat → Int32} {k : Nat} (h : rdm k) : rcel G adr S X k ≠ none := by
  unfold rcel
  by_cases c : k = 0
  · rw [if_pos c]; exact fun q => by cases q
  · rw [if_neg c, if_neg (h.resolve_left c)]; exact fun q => by cases q
def lAr (adr : Nat → Nat) (q : Nat) : Prop := ∃ k, rdm k ∧ adr k = q
def lAc (H0 : Heap) (adr : Nat → Nat) (q : Nat) : Prop := H0.size ≤ q ∧ ¬ lAr adr q
/-- both worlds in one heap -/
def lS (G : gw_G) (H0 : Heap) (ad adr : Nat → Nat) (n : Nat) (S Y : Nat → Nat → Int32) (L : Int64) (Sr X : Nat → Nat → Int32) (H : Heap) : Prop := gw_P G.1 ad (ccel G ad n S Y L) H ∧ gw_D (lAc H0 adr) ad (ccel G ad n S Y L) ∧ gw_P G.1 adr (rcel G adr Sr X) H ∧ gw_D (lAr adr) adr (rcel G adr Sr X) ∧ ∀ k, rdm k → H0.size ≤ adr k ∧ adr k < H.size
section LAW
variable {p : Program} {l : Launch} {e : Env} {R : Room} {s : State} {m : MethodId} {args : Array Value} {below : List Frame} {meth : Method} {c : Code} {H : Heap} {locs : List Loc} {cells slots : Nat} {Q : State → Prop}
variable {cc : ByteArray} {pc : Nat} {ls : Array Slot} {rest st0 : List Value} {G : gw_G} {A A0 : Nat → Prop} {H0 : Heap} {ad adr : Nat → Nat} {cel cel' : Nat → Option va_E} {own C : String}
variable {y : MethodName} {b : ByteArray} {nL index k mc ms n n2 nl : Nat} {r : Option FieldType} {rm : Room} {As : List Value} {res : Option Value} {Pre Post : State → Prop} {a : Array Value}
variable {S Y Sr X S2 Y2 X2 : Nat → Nat → Int32} {L L2 : Int64} {v : Int32}
theorem gc_any (F : gw_F p m c cc s args own) (hK : gw_K G s) (hS : va_S A0 H0 H locs) (hAA : ∀ q, A q → A0 q) (hP : gw_P G.1 ad cel H) (hml : c.maxLocals = nL) (cv : gw_cv own index C y b n r k) {o ci : Nat} {fs : List Value} {q : vw_C} (ho : cel o = some (.inr (ci, fs))) (hq : vwCl[ci]? = some q) (hqC : q.1 = C)
    (hM : gm l y b n r rm mc ms A (.ref (ad o) :: As) Pre Post res) (hpre : ∀ U : State, U.heap = H → gw_K G U → Pre U) (hbl : ∀ as, FrameBlind (va_Pc as Pre)) (hrm : rm.cells = mc ∧ rm.slots = ms) (hrr : rm.frames + 1 ≤ R.frames ∧ 8 + (n + 11) + rm.locals ≤ R.locals) (hn : As.length = k) (hst : st0 = As.reverse ++ .ref (ad o) :: rest) (hsize : ls.size = nL) (hroom : (rest.map fun v => v.category).sum ≤ 8) (hdg : decode cc pc = .ok (.invokevirtual index, 3)) (hf : cells + mc ≤ R.cells ∧ slots + ms ≤ R.slots)
    (kk : ∀ (U : State) (H1 : Heap) (locs1 : List Loc), U.heap = H1 → Post U → H.size ≤ H1.size → (∀ q : Nat, q < H.size → ¬ A q → H1[q]? = H[q]?) → va_S A0 H0 H1 locs1 → W p l e R s m args below meth c H1 locs1 (cells + mc) (slots + ms) Q (F0 m (pc + 3) ls (res.toList ++ rest))) : W p l e R s m args below meth c H locs cells slots Q (F0 m pc ls st0) := by
  subst hqC
  obtain ⟨h1, h2, h3, h4, h5, h6⟩ := cv
  exact gm_call (va_runV (As := As) (rest := rest) (b := ad o) ⟨F.1, F.2.1, hml, F.2.2.1, F.2.2.2⟩ hM (gw_cwV k F.2.2.2 h1 h2 h3 h4 h5 hrm.1 hrm.2 h6 hrr) ⟨hbl _, gw_recv hK hP ho hq, fun U hU hW => ⟨rfl, hpre U hU (gw_K.moved hW.alike hK)⟩⟩ rfl hn hsize hst (lv_room hroom) hdg hf) hS hAA (fun t H1 locs1 ht _ hp hz hk hS => kk t H1 locs1 ht hp hz hk hS)
/-- a call of the class in the law -/
theorem law_C (F : gw_F p m c cc s args own) (hK : gw_K G s) (hS : va_S (fun q : Nat => H0.size ≤ q) H0 H locs) (hl : lS G H0 ad adr n S Y L Sr X H) (hml : c.maxLocals = nL) (cv : gw_cv own index RX6 y b nl (some .int) k) (ok : okC y b nl As n S Y L v n2 S2 Y2 L2) (hR : 601 ≤ R.frames ∧ 8 + (nl + 11) + 36000 ≤ R.locals) (hn : As.length = k) (hst : st0 = As.reverse ++ .ref (ad 0) :: rest) (hsize : ls.size = nL) (hroom : (rest.map fun v => v.category).sum ≤ 8) (hdg : decode cc pc = .ok (.invokevirtual index, 3)) (hf : cells + 14 ≤ R.cells ∧ slots + 99 ≤ R.slots)
    (kk : ∀ (ad2 : Nat → Nat) (H1 : Heap) (locs1 : List Loc), ad2 0 = ad 0 → lS G H0 ad2 adr n2 S2 Y2 L2 Sr X H1 → va_S (fun q : Nat => H0.size ≤ q) H0 H1 locs1 → W p l e R s m args below meth c H1 locs1 (cells + 14) (slots + 99) Q (F0 m (pc + 3) ls (.int v :: rest))) : W p l e R s m args below meth c H locs cells slots Q (F0 m pc ls st0) := by
  obtain ⟨hP, hD, hPr, hDr, hb⟩ := hl
  obtain ⟨rm, Pre, Post, hM, h14, h99, h600, h36, hpre, hbl, hpost⟩ := ok l G (lAc H0 adr) ad
  refine gc_any (A := lAc H0 adr) (o := 0) (ci := 6) (q := (RX6, TX6, 4)) F hK hS (fun q h => h.1) hP hml cv rfl rfl rfl hM (fun U hU hk => hpre U ⟨⟨by rw [hU]; exact hP, hD, hk⟩, fun q hq => ⟨?_, ?_⟩⟩) hbl ⟨rfl, rfl⟩ ⟨by omega, by omega⟩ hn hst hsize hroom hdg ⟨by omega, by omega⟩ (fun U H1 locs1 hU hp hz hk hS1 => ?_)
  · rw [hU] at hq; exact Nat.le_trans hS.1 hq
  · rintro ⟨j, hj, e⟩
    rw [hU] at hq
    have := (hb j hj).2
    omega
  · obtain ⟨ad2, e0, hW⟩ := hpost U hp
    refine W.widen (by omega) (by omega) (kk ad2 H1 locs1 e0 ⟨by rw [← hU]; exact hW.1, hW.2.1, fun j x hx => ?_, hDr, fun j hj => ⟨(hb j hj).1, Nat.lt_of_lt_of_le (hb j hj).2 hz⟩⟩ hS1)
    have hj : rdm j := rcel_rdm (by rw [hx]; exact fun q => by cases q)
    exact (hPr j x hx).kept (hk _ (hb j hj).2 (fun q => q.2 ⟨j, hj, rfl⟩))
/-- a call of the reference in the law -/
theorem law_R (F : gw_F p m c cc s args own) (hK : gw_K G s) (hS : va_S (fun q : Nat => H0.size ≤ q) H0 H locs) (hl : lS G H0 ad adr n S Y L Sr X H) (hml : c.maxLocals = nL) (cv : gw_cv own index RX7 y b nl (some .int) k) (ok : okR y b nl As Sr X v S2 X2) (hR : 601 ≤ R.frames ∧ 8 + (nl + 11) + 36000 ≤ R.locals) (hn : As.length = k) (hst : st0 = As.reverse ++ .ref (adr 0) :: rest) (hsize : ls.size = nL) (hroom : (rest.map fun v => v.category).sum ≤ 8) (hdg : decode cc pc = .ok (.invokevirtual index, 3)) (hf : cells ≤ R.cells ∧ slots ≤ R.slots)
    (kk : ∀ (H1 : Heap) (locs1 : List Loc), lS G H0 ad adr n S Y L S2 X2 H1 → va_S (fun q : Nat => H0.size ≤ q) H0 H1 locs1 → W p l e R s m args below meth c H1 locs1 cells slots Q (F0 m (pc + 3) ls (.int v :: rest))) : W p l e R s m args below meth c H locs cells slots Q (F0 m pc ls st0) := by
  obtain ⟨hP, hD, hPr, hDr, hb⟩ := hl
  obtain ⟨kf, hk20, hM⟩ := ok
  refine gc_any (A := lAr adr) (ad := adr) (cel := rcel G adr Sr X) (o := 0) (ci := 7) (q := (RX7, TX7, 34)) F hK hS (fun q h => by obtain ⟨j, hj, e⟩ := h; rw [← e]; exact (hb j hj).1) hPr hml cv rfl rfl rfl (hM l G (lAr adr) adr) (fun U hU hk => ⟨by rw [hU]; exact hPr, hDr, hk⟩) (fun _ => gW.blind) ⟨rfl, rfl⟩ ⟨by show kf + 1 ≤ _; omega, by show 8 + (nl + 11) + 60 * kf ≤ _; omega⟩ hn hst hsize hroom hdg ⟨by omega, by omega⟩ (fun U H1 locs1 hU hp hz hk hS1 => ?_)
  refine kk H1 locs1 ⟨fun j x hx => ?_, hD, by rw [← hU]; exact hp.1, hp.2.1, fun j hj => ⟨(hb j hj).1, Nat.lt_of_lt_of_le (hb j hj).2 hz⟩⟩ hS1
  exact (hP j x hx).kept (hk _ (hP j x hx).lt (hD.1 j (by rw [hx]; exact fun q => by cases q)).2)
/-- a constructor's call, whatever it asks of the state -/
theorem gcIg {o : Nat} (F : gw_F p m c cc s args own) (hK : gw_K G s) (hA : ∀ q, H0.size ≤ q → A q) (hB : gw_B G A adr cel H0 H locs) (hml : c.maxLocals = nL) (cv : gw_ci own index y b n k) (hpre : ∀ (as : List Value), FrameBlind (va_Pc as Pre)) (hp : ∀ U : State, gWa G A adr cel U → s.WarmedH U.vm → Pre U)
    (hM : gm l y b n none rm mc ms A (.ref o :: As) Pre Post none) (hrm : rm.cells = mc ∧ rm.slots = ms) (hrr : rm.frames + 1 ≤ R.frames ∧ 8 + (n + 11) + rm.locals ≤ R.locals) (hn : As.length = k) (hst : st0 = As.reverse ++ .ref o :: rest) (hsize : ls.size = nL) (hroom : (rest.map fun v => v.category).sum ≤ 8) (hdg : decode cc pc = .ok (.invokespecial index, 3)) (hf : cells + mc ≤ R.cells ∧ slots + ms ≤ R.slots)
    (kk : ∀ (U : State) (H1 : Heap) (locs1 : List Loc), U.heap = H1 → Post U → va_S A H0 H1 locs1 → W p l e R s m args below meth c H1 locs1 (cells + mc) (slots + ms) Q (F0 m (pc + 3) ls rest)) : W p l e R s m args below meth c H locs cells slots Q (F0 m pc ls st0) := by
  obtain ⟨h1, h2, h4, h5, h6, h7⟩ := cv
  refine gm_call (va_runI (As := As) (rest := rest) (b := o) ⟨F.1, F.2.1, hml, F.2.2.1, F.2.2.2⟩ hM (gw_cwI k F.2.2.2 h1 h2 h4 h5 hrm.1 hrm.2 h6 h7 hrr) ⟨hpre _, fun U hU hW => ⟨rfl, hp U ⟨⟨by rw [hU]; exact hB.1, hB.2.1, gw_K.moved hW.alike hK⟩, fun q hq => hA q (Nat.le_trans hB.2.2.1 (by rw [hU] at hq; exact hq))⟩ hW⟩⟩ rfl hn hsize hst (lv_room hroom) hdg hf) hB.2.2 (fun _ h => h) (fun t H1 locs1 ht hvm hp _ _ hS => ?_)
  exact kk t H1 locs1 ht hp hS
end LAW
theorem ci_L_9 : gw_ci RL 9 yX6_init cX6_init 1 0 := ⟨ml_L_9, im_X6_init, in_X6, co_X6_init, by decide +kernel⟩
theorem ci_L_12 : gw_ci RL 12 yX7_init cX7_init 1 0 := ⟨ml_L_12, im_X7_init, in_X7, co_X7_init, by decide +kernel⟩
/-- the first pictures -/
def S00 : Nat → Nat → Int32 := fun _ _ => 0
def Y00 : Nat → Nat → Int32 := fun k _ => if k = 2 ∨ k = 3 then 0 else -1
def X00 : Nat → Nat → Int32 := fun k _ => if k = 20 then -1 else 0
theorem iv00 : iv 0 S00 Y00 X00 := by
  refine ⟨⟨by omega, rfl, fun x _ => ⟨0, by omega, rfl⟩, fun x i hx => by omega, fun x hx => by omega, fun x hx => by omega, fun mm _ => ⟨0, by omega, rfl⟩, fun mm i hm => by omega⟩, ⟨⟨0, by omega, rfl⟩, ⟨0, by omega, rfl⟩, fun x _ => ⟨0, by omega, rfl⟩, fun x hx => by omega⟩, ⟨fun _ _ => ⟨rfl, rfl, rfl⟩, fun _ _ => ⟨rfl, rfl, rfl⟩, fun _ _ => rfl⟩, fun i => Or.inl rfl, fun x hx => by omega, ?_⟩
  decide
theorem ccel0 {G : gw_G} {adr : Nat → Nat} {r q1 q2 q3 q4 q5 q6 q7 : Nat} : bC 0 8 [(0, .inr (6, [.ref q1, .int (nI 0), .ref q2, .ref q6])), (1, .inl (G.2 3, 12, qr (fun _ => none))), (2, .inr (3, [.ref q3])), (3, .inr (1, [.ref q4, .ref q5, .int (nI 0), .int (nI 0), .int (nI 0), .int (nI 0), .int (-1), .int (-1)])), (4, .inl (G.2 0, 60, .inl (fun _ => 0))), (5, .inl (G.2 0, 60, .inl (fun _ => 0))), (6, .inr (5, [.int (nI 0), .long 0, .ref q7, .int (nI 0)])), (7, .inl (G.2 4, 48, qr (fun _ => none)))] (fun _ => none) = ccel G (bN 0 8 [(7, q7), (6, q6), (5, q5), (4, q4), (3, q3), (2, q2), (1, q1), (0, r)] adr) 0 S00 Y00 0 := by
  funext a
  match a with
  | 0 => rfl
  | 1 => rfl
  | 2 => rfl
  | 3 => rfl
  | 4 => rfl
  | 5 => rfl
  | 6 => rfl
  | 7 => rfl
  | b + 8 =>
    refine (bl_out (b := 0) (w := 8) (k := b + 8) (by omega)).trans ?_
    show none = (if b / 60 < 0 then kcel G (bN 0 8 [(7, q7), (6, q6), (5, q5), (4, q4), (3, q3), (2, q2), (1, q1), (0, r)] adr) S00 (b / 60) (b % 60) else none)
    rw [if_neg (by omega)]
theorem rcel0 {G : gw_G} {adr : Nat → Nat} {r q1 q2 q3 q4 q5 q6 q7 q8 q9 q10 q11 q12 q14 q15 q23 q24 q25 q26 q27 q28 q29 q30 q33 : Nat} : bC 0 40 [(0, .inr (7, [.int 0, .ref q1, .ref q2, .ref q3, .ref q4, .ref q5, .ref q6, .ref q7, .ref q8, .ref q9, .ref q10, .ref q11, .ref q12, .int 0, .ref q14, .ref q15, .int 0, .int 0, .int 0, .int 0, .int (-1), .int 0, .int 0, .ref q23, .ref q24, .ref q25, .ref q26, .ref q27, .ref q28, .ref q29, .ref q30, .int 0, .int 0, .ref q33])), (1, .inl (G.2 1, 12, .inl (fun _ => 0))), (2, .inl (G.2 1, 12, .inl (fun _ => 0))), (3, .inl (G.2 0, 12, .inl (fun _ => 0))), (4, .inl (G.2 0, 12, .inl (fun _ => 0))), (5, .inl (G.2 0, 36, .inl (fun _ => 0))), (6, .inl (G.2 0, 48, .inl (fun _ => 0))), (7, .inl (G.2 1, 48, .inl (fun _ => 0))), (8, .inl (G.2 0, 12, .inl (fun _ => 0))), (9, .inl (G.2 0, 240, .inl (fun _ => 0))), (10, .inl (G.2 0, 48, .inl (fun _ => 0))), (11, .inl (G.2 0, 1920, .inl (fun _ => 0))), (12, .inl (G.2 0, 12, .inl (fun _ => 0))), (14, .inl (G.2 0, 60, .inl (fun _ => 0))), (15, .inl (G.2 0, 60, .inl (fun _ => 0))), (23, .inl (G.2 0, 300, .inl (fun _ => 0))), (24, .inl (G.2 0, 300, .inl (fun _ => 0))), (25, .inl (G.2 0, 300, .inl (fun _ => 0))), (26, .inl (G.2 0, 300, .inl (fun _ => 0))), (27, .inl (G.2 0, 300, .inl (fun _ => 0))), (28, .inl (G.2 0, 300, .inl (fun _ => 0))), (29, .inl (G.2 0, 3000, .inl (fun _ => 0))), (30, .inl (G.2 0, 3000, .inl (fun _ => 0))), (33, .inl (G.2 1, 48, .inl (fun _ => 0)))] (fun _ => none) = rcel G (bN 0 40 [(33, q33), (30, q30), (29, q29), (28, q28), (27, q27), (26, q26), (25, q25), (24, q24), (23, q23), (15, q15), (14, q14), (12, q12), (11, q11), (10, q10), (9, q9), (8, q8), (7, q7), (6, q6), (5, q5), (4, q4), (3, q3), (2, q2), (1, q1), (0, r)] adr) S00 X00 := by
  funext a
  match a with
  | 0 => rfl
  | 1 => rfl
  | 2 => rfl
  | 3 => rfl
  | 4 => rfl
  | 5 => rfl
  | 6 => rfl
  | 7 => rfl
  | 8 => rfl
  | 9 => rfl
  | 10 => rfl
  | 11 => rfl
  | 12 => rfl
  | 13 => rfl
  | 14 => rfl
  | 15 => rfl
  | 16 => rfl
  | 17 => rfl
  | 18 => rfl
  | 19 => rfl
  | 20 => rfl
  | 21 => rfl
  | 22 => rfl
  | 23 => rfl
  | 24 => rfl
  | 25 => rfl
  | 26 => rfl
  | 27 => rfl
  | 28 => rfl
  | 29 => rfl
  | 30 => rfl
  | 31 => rfl
  | 32 => rfl
  | 33 => rfl
  | 34 => rfl
  | 35 => rfl
  | 36 => rfl
  | 37 => rfl
  | 38 => rfl
  | 39 => rfl
  | b + 40 =>
    exact (bl_out (b := 0) (w := 40) (k := b + 40) (by omega)).trans rfl
