/-! THE CLASS, 20: keep, made, face -/
/-- what is not made yet is nothing -/
def zI (n : Nat) (S : Nat → Nat → Int32) : Prop := (∀ x, n ≤ x → S 4 x = 0 ∧ S 8 x = 0 ∧ S 12 x = 0) ∧ (∀ j, 4 * n ≤ j → S 6 j = 0 ∧ S 7 j = 0 ∧ S 10 j = 0) ∧ ∀ j, 20 * n ≤ j → S 9 j = 0
def yI (n : Nat) (Y : Nat → Nat → Int32) : Prop := ∀ i, Y 4 i = -1 ∨ (Y 4 i).toNatClampNeg < 4 * n
def mkS (S : Nat → Nat → Int32) (n : Nat) (fa de pa : Int32) : Nat → Nat → Int32 := m2 (m2 (m2 (m2 S 1 n fa) 2 n de) 3 n pa) 0 0 (nI (n + 1))
def kL (G : gw_G) (adr : Nat → Nat) (n : Nat) (fa de : Int32) (pv : Value) : List (Nat × va_E) := [(0, .inr (2, [.int (nI n), .int fa, .int de, pv, .ref (adr (nk n 1)), .int (nI 0), .ref (adr (nk n 2)), .ref (adr (nk n 3)), .ref (adr (nk n 4)), .int (-1), .ref (adr (nk n 5)), .int (nI 0)])), (1, .inl (G.2 3, 3, qr (fun _ => none))), (2, .inl (G.2 0, 4, .inl (fun _ => 0))), (3, .inl (G.2 1, 4, .inl (fun _ => 0))), (4, .inl (G.2 0, 20, .inl (fun _ => 0))), (5, .inl (G.2 4, 4, qr (va_up (va_up (va_up (va_up (fun _ => none) 0 (some (adr (nk n 6)))) 1 (some (adr (nk n 7)))) 2 (some (adr (nk n 8)))) 3 (some (adr (nk n 9)))))), (6, .inr (4, [.int (nI (n * 4 + 0)), .ref (adr (nk n 10)), .int (nI 0)])), (10, .inl (G.2 2, 10, qr (fun _ => none))), (7, .inr (4, [.int (nI (n * 4 + 1)), .ref (adr (nk n 11)), .int (nI 0)])), (11, .inl (G.2 2, 10, qr (fun _ => none))), (8, .inr (4, [.int (nI (n * 4 + 2)), .ref (adr (nk n 12)), .int (nI 0)])), (12, .inl (G.2 2, 10, qr (fun _ => none))), (9, .inr (4, [.int (nI (n * 4 + 3)), .ref (adr (nk n 13)), .int (nI 0)])), (13, .inl (G.2 2, 10, qr (fun _ => none)))]
theorem mkS_ne {S : Nat → Nat → Int32} {n a : Nat} {fa de pa : Int32} (h : 4 ≤ a) : mkS S n fa de pa a = S a := by
  unfold mkS
  rw [m2_ne (by omega), m2_ne (by omega), m2_ne (by omega), m2_ne (by omega)]
theorem mkS_o {S : Nat → Nat → Int32} {n a x : Nat} {fa de pa : Int32} (h0 : a ≠ 0) (h : x ≠ n) : mkS S n fa de pa a x = S a x := by
  unfold mkS
  rw [m2_nk h0]
  by_cases c3 : a = 3
  · subst c3; rw [m2_o h, m2_nk (by decide), m2_nk (by decide)]
  rw [m2_nk c3]
  by_cases c2 : a = 2
  · subst c2; rw [m2_o h, m2_nk (by decide)]
  rw [m2_nk c2]
  by_cases c1 : a = 1
  · subst c1; rw [m2_o h]
  rw [m2_nk c1]
theorem mkS_1 {S : Nat → Nat → Int32} {n : Nat} {fa de pa : Int32} : mkS S n fa de pa 1 n = fa := by
  unfold mkS
  rw [m2_nk (by decide), m2_nk (by decide), m2_nk (by decide), m2_at]
theorem mkS_2 {S : Nat → Nat → Int32} {n : Nat} {fa de pa : Int32} : mkS S n fa de pa 2 n = de := by
  unfold mkS
  rw [m2_nk (by decide), m2_nk (by decide), m2_at]
theorem mkS_3 {S : Nat → Nat → Int32} {n : Nat} {fa de pa : Int32} : mkS S n fa de pa 3 n = pa := by
  unfold mkS
  rw [m2_nk (by decide), m2_at]
theorem mkS_0 {S : Nat → Nat → Int32} {n : Nat} {fa de pa : Int32} : mkS S n fa de pa 0 0 = nI (n + 1) := m2_at
theorem clip_z {w : Nat} {f : Nat → Int32} (h : ∀ i, f i = 0) : clip w f = fun _ => 0 := by
  funext i
  unfold clip
  rw [h i]
  split <;> rfl
theorem kcel_new {G : gw_G} {adr : Nat → Nat} {n : Nat} {S : Nat → Nat → Int32} {fa de pa : Int32} {pv : Value} (hz : zI n S) (hp : va_rf (pref adr (mkS S n fa de pa) n) = pv) : ∀ j, lkf (kL G adr n fa de pv) j = kcel G adr (mkS S n fa de pa) n j := by
  have z4 : mkS S n fa de pa 4 n = 0 := by rw [mkS_ne (by decide)]; exact (hz.1 n (Nat.le_refl _)).1
  have z8 : mkS S n fa de pa 8 n = 0 := by rw [mkS_ne (by decide)]; exact (hz.1 n (Nat.le_refl _)).2.1
  have z12 : mkS S n fa de pa 12 n = 0 := by rw [mkS_ne (by decide)]; exact (hz.1 n (Nat.le_refl _)).2.2
  have z10 : ∀ q, mkS S n fa de pa 10 (4 * n + q) = 0 := fun q => by rw [mkS_ne (by decide)]; exact (hz.2.1 _ (by omega)).2.2
  have ea : ∀ q, acR adr (mkS S n fa de pa) n q = fun _ => none := fun q => by
    funext i
    unfold acR
    rw [z10, if_neg (by show ¬ i < 0; omega)]
  have em : ∀ q, mfs adr (mkS S n fa de pa) n q = [.int (nI (n * 4 + q)), .ref (adr (nk n (10 + q))), .int (nI 0)] := fun q => by
    unfold mfs
    rw [z10, Nat.mul_comm 4 n]; rfl
  intro j
  match j with
  | 0 =>
    show (some (.inr (2, _)) : Option va_E) = some (.inr (2, kfs adr (mkS S n fa de pa) n))
    unfold kfs
    rw [hp, mkS_1, mkS_2, z4, z8, z12]
    rfl
  | 1 =>
    show (some (.inl (G.2 3, 3, qr (fun _ => none))) : Option va_E) = some (.inl (G.2 3, 3, qr (fcR adr (mkS S n fa de pa) n)))
    rw [show fcR adr (mkS S n fa de pa) n = fun _ => none from by funext i; unfold fcR; rw [z4, if_neg (by show ¬ i < 0; omega)]]
  | 2 =>
    show (some (.inl (G.2 0, 4, .inl (fun _ => 0))) : Option va_E) = some (.inl (G.2 0, 4, .inl (clip 4 (fun i => mkS S n fa de pa 6 (4 * n + i)))))
    rw [clip_z (fun i => by rw [mkS_ne (by decide)]; exact (hz.2.1 _ (by omega)).1)]
  | 3 =>
    show (some (.inl (G.2 1, 4, .inl (fun _ => 0))) : Option va_E) = some (.inl (G.2 1, 4, .inl (clip 4 (fun i => mkS S n fa de pa 7 (4 * n + i)))))
    rw [clip_z (fun i => by rw [mkS_ne (by decide)]; exact (hz.2.1 _ (by omega)).2.1)]
  | 4 =>
    show (some (.inl (G.2 0, 20, .inl (fun _ => 0))) : Option va_E) = some (.inl (G.2 0, 20, .inl (clip 20 (fun i => mkS S n fa de pa 9 (20 * n + i)))))
    rw [clip_z (fun i => by rw [mkS_ne (by decide)]; exact hz.2.2 _ (by omega))]
  | 5 =>
    show (some (.inl (G.2 4, 4, qr (va_up (va_up (va_up (va_up (fun _ => none) 0 (some (adr (nk n 6)))) 1 (some (adr (nk n 7)))) 2 (some (adr (nk n 8)))) 3 (some (adr (nk n 9)))))) : Option va_E) = some (.inl (G.2 4, 4, qr (mtR adr n)))
    rw [show va_up (va_up (va_up (va_up (fun _ => none) 0 (some (adr (nk n 6)))) 1 (some (adr (nk n 7)))) 2 (some (adr (nk n 8)))) 3 (some (adr (nk n 9))) = mtR adr n from by
      funext i
      match i with
      | 0 => rfl
      | 1 => rfl
      | 2 => rfl
      | 3 => rfl
      | i + 4 => unfold mtR; rw [if_neg (by omega)]; simp [va_up]]
  | 6 => exact (congrArg (fun z => (some (.inr (4, z)) : Option va_E)) (em 0)).symm
  | 7 => exact (congrArg (fun z => (some (.inr (4, z)) : Option va_E)) (em 1)).symm
  | 8 => exact (congrArg (fun z => (some (.inr (4, z)) : Option va_E)) (em 2)).symm
  | 9 => exact (congrArg (fun z => (some (.inr (4, z)) : Option va_E)) (em 3)).symm
  | 10 => exact (congrArg (fun z => (some (.inl (G.2 2, 10, qr z)) : Option va_E)) (ea 0)).symm
  | 11 => exact (congrArg (fun z => (some (.inl (G.2 2, 10, qr z)) : Option va_E)) (ea 1)).symm
  | 12 => exact (congrArg (fun z => (some (.inl (G.2 2, 10, qr z)) : Option va_E)) (ea 2)).symm
  | 13 => exact (congrArg (fun z => (some (.inl (G.2 2, 10, qr z)) : Option va_E)) (ea 3)).symm
  | j + 14 =>
    unfold kcel
    rw [if_neg (by omega), if_neg (by omega), if_neg (by omega), if_neg (by omega), if_neg (by omega), if_neg (by omega), if_neg (by omega), if_neg (by omega), z10, if_neg (by rintro ⟨-, h⟩; exact absurd h (by show ¬ _ < 0; omega))]
    simp [kL, lkf]
theorem kcel_old {G : gw_G} {adr : Nat → Nat} {n x j : Nat} {S : Nat → Nat → Int32} {fa de pa : Int32} (hx : x < n) : kcel G adr (mkS S n fa de pa) x j = kcel G adr S x j :=
  kcel_eq (mkS_o (by decide) (by omega)) (mkS_o (by decide) (by omega)) (mkS_o (by decide) (by omega)) (mkS_o (by decide) (by omega)) (mkS_ne (by decide)) (fun _ => by rw [mkS_ne (by decide)]) (fun _ => by rw [mkS_ne (by decide)]) (fun _ => mkS_o (by decide) (by omega)) (fun _ => by rw [mkS_ne (by decide)]) (mkS_ne (by decide)) (mkS_ne (by decide)) (fun _ => mkS_o (by decide) (by omega))
theorem ccel_keep {G : gw_G} {adr : Nat → Nat} {n : Nat} {S Y : Nat → Nat → Int32} {L : Int64} {fa de pa : Int32} {pv : Value} (hz : zI n S) (hp : va_rf (pref adr (mkS S n fa de pa) n) = pv) :
    va_up (va_up (bC (nk n 0) 60 (kL G adr n fa de pv) (ccel G adr n S Y L)) 1 (some (.inl (G.2 3, 12, qr (va_up (kdR adr n) n (some (adr (nk n 0)))))))) 0 (some (.inr (6, (ofs adr S).set 1 (.int (nI (n + 1)))))) = ccel G adr (n + 1) (mkS S n fa de pa) Y L := by
  have e : ∀ a, 4 ≤ a → mkS S n fa de pa a = S a := fun a h => mkS_ne h
  funext a
  by_cases a0 : a = 0
  · subst a0
    show (some (.inr (6, (ofs adr S).set 1 (.int (nI (n + 1))))) : Option va_E) = some (.inr (6, ofs adr (mkS S n fa de pa)))
    unfold ofs
    rw [mkS_0]; rfl
  by_cases a1 : a = 1
  · subst a1
    show (some (.inl (G.2 3, 12, qr (va_up (kdR adr n) n (some (adr (nk n 0)))))) : Option va_E) = some (.inl (G.2 3, 12, qr (kdR adr (n + 1))))
    rw [show va_up (kdR adr n) n (some (adr (nk n 0))) = kdR adr (n + 1) from by
      funext i
      unfold va_up kdR
      by_cases c : i = n
      · rw [if_pos c, if_pos (by omega), c]
      · rw [if_neg c]
        by_cases d : i < n
        · rw [if_pos d, if_pos (by omega)]
        · rw [if_neg d, if_neg (by omega)]]
  rw [show ∀ f g, va_up (va_up (bC (nk n 0) 60 (kL G adr n fa de pv) (ccel G adr n S Y L)) 1 f) 0 g a = bC (nk n 0) 60 (kL G adr n fa de pv) (ccel G adr n S Y L) a from fun f g => by simp only [va_up, if_neg a0, if_neg a1]]
  by_cases ab : nk n 0 ≤ a ∧ a < nk n 0 + 60
  · obtain ⟨j, hj⟩ : ∃ j, a = nk n 0 + j := ⟨a - nk n 0, by omega⟩
    have hj60 : j < 60 := by omega
    subst hj
    refine (bl_at hj60).trans ?_
    rw [show nk n 0 + j = nk n j from by show 8 + 60 * n + 0 + j = 8 + 60 * n + j; omega, ccel_k (by omega) hj60]
    exact kcel_new hz hp j
  refine (bl_out (by omega)).trans ?_
  match a, a0, a1, ab with
  | 2, _, _, _ => rfl
  | 3, _, _, _ => simp only [ccel, jfs, e 13 (by decide), e 16 (by decide), e 17 (by decide), e 18 (by decide)]
  | 4, _, _, _ => simp only [ccel, e 14 (by decide)]
  | 5, _, _, _ => simp only [ccel, e 15 (by decide)]
  | 6, _, _, _ => rfl
  | 7, _, _, _ => rfl
  | b + 8, _, _, ab =>
    simp only [ccel]
    by_cases hb : b / 60 < n
    · rw [if_pos hb, if_pos (by omega), kcel_old hb]
    · rw [if_neg hb, if_neg (by
        intro q
        refine ab ⟨?_, ?_⟩
        · show 8 + 60 * n + 0 ≤ b + 8; omega
        · show b + 8 < 8 + 60 * n + 0 + 60; omega)]
section GB3
variable {p : Program} {l : Launch} {e : Env} {R : Room} {s : State} {m : MethodId} {args : Array Value} {below : List Frame} {meth : Method} {c : Code} {H : Heap} {locs : List Loc} {cells slots : Nat} {Q : State → Prop}
variable {cc : ByteArray} {pc : Nat} {ls : Array Slot} {rest : List Value} {G : gw_G} {A : Nat → Prop} {H0 : Heap} {adr : Nat → Nat} {cel : Nat → Option va_E} {own C : String} {b w : Nat} {L L' : List (Nat × va_E)} {M : List (Nat × Nat)}
theorem gb_getO (F : gw_F p m c cc s args own) (hK : gw_K G s) (hB : gw_B G A (bN b w M adr) (bC b w L cel) H0 H locs) (n : Nat) (hno : n < b ∨ b + w ≤ n) {ci : Nat} {fs : List Value} (he : cel n = some (.inr (ci, fs))) {C : String} {T : u_T} {N index : Nat} (hc : vwCl[ci]? = some (C, T, N)) (hin : ∀ w ∈ u_ws C T N, w ∈ gwA) (k : Nat) (hk : k < N) (hlink : Cond.fieldLink own index (T k).1 (T k).2.1 (T k).2.2.1 ∈ gwA) {v : Value} (hv : fs[k]? = some v) (hdg : decode cc pc = .ok (.getfield index, 3))
    (kk : W p l e R s m args below meth c H locs cells slots Q (F0 m (pc + 3) ls (v :: rest))) : W p l e R s m args below meth c H locs cells slots Q (F0 m pc ls (.ref (adr n) :: rest)) := by
  rw [show adr n = bN b w M adr n from (bl_out hno).symm]
  exact gw_get F hK hB.1 n ((bl_out hno).trans he) hc hin k hk hlink hv hdg kk
end GB3
theorem ci_X6_156 : gw_ci RX6 156 yX2_init cX2_init 6 4 := ⟨ml_X6_156, im_X2_init, in_X2, co_X2_init, by decide +kernel⟩
set_option maxHeartbeats 4000000 in
set_option maxRecDepth 100000 in
/-- keep(..), where there is room -/
theorem c_X6_keepN (l : Launch) (G : gw_G) (A : Nat → Prop) (adr : Nat → Nat) (n : Nat) (S Y : Nat → Nat → Int32) (L : Int64) (fa de : Int32) (hs : sI n S) (hz : zI n S) (hy : yI n Y) (hn : n < 12) (hfa : fa = 0 ∨ fa = 1) (hde : de = 0 ∨ de = 1) : gm l yX6_keep cX6_keep 4 (some .int) (rmA 4 14 99) 14 99 A [.ref (adr 0), .int fa, .int de, .null] (gWa G A adr (ccel G adr n S Y L)) (fun U => ∃ adr2 : Nat → Nat, (∀ k, k < nk n 0 ∨ nk n 0 + 60 ≤ k → adr2 k = adr k) ∧ gW G A adr2 (ccel G adr2 (n + 1) (mkS S n fa de (-1)) Y L) U) (some (.int (nI n))) := by
  refine gm_ofA (own := RX6) (by decide) rfl (Nat.le_of_ble_eq_true rfl) ?_
  intro p e s m below meth c ls F hml hr hlk hnm hK hA hR hl
  have hx := F.1
  have hb := F.2.1
  replace hl : lv_has ls 4 [(0, .ref (adr 0)), (1, .int fa), (2, .int de), (3, .null)] := hl
  refine lv_aload_n hx hb dX6_keep_0 rfl (lv_at hl 0 rfl) ?_
  refine og_1 F hK hR fl_X6_15 dX6_keep_1 ?_
  refine lv_eq (hs.2.1) ?_
  refine lv_bipush (v := nI 12) hx hb dX6_keep_4 (by decide) ?_
  refine nv_icmp_lt (by omega) (by omega) hx hb dX6_keep_6 (tgt := 12) (by decide) (fun c_6 => ?_) (fun c_6 => absurd c_6 (by omega))
  refine lv_aload_n hx hb dX6_keep_12 rfl (lv_at hl 0 rfl) ?_
  refine og_0 F hK hR fl_X6_11 dX6_keep_13 ?_
  refine lv_aload_n hx hb dX6_keep_16 rfl (lv_at hl 0 rfl) ?_
  refine og_1 F hK hR fl_X6_15 dX6_keep_17 ?_
  refine lv_eq (hs.2.1) ?_
  have hNone : ∀ j, j < 60 → ccel G adr n S Y L (nk n 0 + j) = none := fun j hj => by
    rw [show nk n 0 + j = (60 * n + j) + 8 from by show 8 + 60 * n + 0 + j = _; omega]
    show (if (60 * n + j) / 60 < n then _ else none) = none
    rw [if_neg (by omega)]
  have e1 : bC (nk n 0) 60 [] (ccel G adr n S Y L) = ccel G adr n S Y L := bl_ext (fun j hj => (hNone j hj).symm) (fun k hk => rfl)
  replace hR := gw_B.to2 hR (bN_0 (nk n 0) 60 adr).symm e1.symm
  refine gb_new F hK hA hR 0 2 (by decide) rfl rfl inX2 tyX2 tyX2_ok kl_X6_9 ia_X2 in_X2 (fs := [.int 0, .int 0, .int 0, .null, .null, .int 0, .null, .null, .null, .int 0, .null, .int 0]) (by decide +kernel) (Nat.le_of_ble_eq_true rfl) (Nat.le_of_ble_eq_true rfl) (L' := [(0, .inr (2, [.int 0, .int 0, .int 0, .null, .null, .int 0, .null, .null, .null, .int 0, .null, .int 0]))]) rfl dX6_keep_20 (fun r H hR => ?_)
  refine lv_dup hx hb dX6_keep_23 rfl ?_
  refine lv_aload_n hx hb dX6_keep_24 rfl (lv_at hl 0 rfl) ?_
  refine gb_getO F hK hR 0 (Or.inl (by show 0 < 8 + 60 * n + 0; omega)) rfl rfl inX6 1 (by decide) fl_X6_15 rfl dX6_keep_25 ?_
  refine lv_eq hs.2.1 ?_
  refine lv_iload_n hx hb dX6_keep_28 rfl (lv_at hl 1 rfl) ?_
  refine lv_iload_n hx hb dX6_keep_29 rfl (lv_at hl 2 rfl) ?_
  refine lv_aload_nN hx hb dX6_keep_30 rfl (lv_at hl 3 rfl) ?_
  refine gcI (As := [.int (nI n), .int fa, .int de, .null]) F hK hA hR hml ci_X6_156 (c_X2_initN l G A adr _ (nk n 0) r n fa de hfa hde) ⟨rfl, rfl⟩ ⟨Nat.le_of_ble_eq_true rfl, Nat.le_of_ble_eq_true rfl⟩ rfl rfl hl.1 (Nat.le_of_ble_eq_true rfl) dX6_keep_31 ⟨Nat.le_of_ble_eq_true rfl, Nat.le_of_ble_eq_true rfl⟩ (fun U H locs hU hP hS => ?_)
  obtain ⟨q1, q2, q3, q4, q5, q6, q7, q8, q9, q10, q11, q12, q13, hP⟩ := hP
  obtain ⟨adr2, hadr, hr0, hR⟩ : ∃ adr2 : Nat → Nat, (∀ k, k < nk n 0 ∨ nk n 0 + 60 ≤ k → adr2 k = adr k) ∧ adr2 (nk n 0) = r ∧ gw_B G A adr2 (bC (nk n 0) 60 (kL G adr2 n fa de (.null)) (ccel G adr2 n S Y L)) s.heap H locs := by
    have ha : ∀ k, k < nk n 0 ∨ nk n 0 + 60 ≤ k → (bN (nk n 0) 60 [(13, q13), (9, q9), (12, q12), (8, q8), (11, q11), (7, q7), (10, q10), (6, q6), (5, q5), (4, q4), (3, q3), (2, q2), (1, q1), (0, r)] adr) k = adr k := fun k hk => bl_out hk
    have hb : ∀ j v, j < 60 → lkn [(13, q13), (9, q9), (12, q12), (8, q8), (11, q11), (7, q7), (10, q10), (6, q6), (5, q5), (4, q4), (3, q3), (2, q2), (1, q1), (0, r)] (fun j => adr (nk n 0 + j)) j = v → (bN (nk n 0) 60 [(13, q13), (9, q9), (12, q12), (8, q8), (11, q11), (7, q7), (10, q10), (6, q6), (5, q5), (4, q4), (3, q3), (2, q2), (1, q1), (0, r)] adr) (nk n j) = v := fun j v hj hv => by
      rw [show nk n j = nk n 0 + j from by show 8 + 60 * n + j = 8 + 60 * n + 0 + j; omega]
      exact (bl_at hj).trans hv
    have hrm : rmR (bN (nk n 0) 60 [(13, q13), (9, q9), (12, q12), (8, q8), (11, q11), (7, q7), (10, q10), (6, q6), (5, q5), (4, q4), (3, q3), (2, q2), (1, q1), (0, r)] adr) Y = rmR adr Y := by
      funext i
      unfold rmR
      by_cases c : Y 4 i = -1
      · rw [if_pos c, if_pos c]
      · have h4 := (hy i).resolve_left c
        rw [if_neg c, if_neg c, ha _ (Or.inl (by show 8 + 60 * ((Y 4 i).toNatClampNeg / 4) + (6 + (Y 4 i).toNatClampNeg % 4) < 8 + 60 * n + 0; omega))]
    have hac : ccel G (bN (nk n 0) 60 [(13, q13), (9, q9), (12, q12), (8, q8), (11, q11), (7, q7), (10, q10), (6, q6), (5, q5), (4, q4), (3, q3), (2, q2), (1, q1), (0, r)] adr) n S Y L = ccel G adr n S Y L := ccel_adr hs (fun k hk => ha k (Or.inl (by show k < 8 + 60 * n + 0; omega))) (fun x2 j hx2 hj => ha _ (Or.inl (by show 8 + 60 * x2 + j < 8 + 60 * n + 0; omega))) (fun x2 q2 i hx2 hq2 hi => ha _ (Or.inl (by
      show 8 + 60 * x2 + (14 + 10 * q2 + i) < 8 + 60 * n + 0
      have h9 := (sI_ac hs (mm := 4 * x2 + q2) (by omega)).1
      omega))) hrm
    refine ⟨(bN (nk n 0) 60 [(13, q13), (9, q9), (12, q12), (8, q8), (11, q11), (7, q7), (10, q10), (6, q6), (5, q5), (4, q4), (3, q3), (2, q2), (1, q1), (0, r)] adr), ha, hb 0 _ (by decide) rfl, ?_⟩
    have h := gW_back hP hU hS
    unfold kL
    rw [hac, hb 1 _ (by decide) rfl, hb 2 _ (by decide) rfl, hb 3 _ (by decide) rfl, hb 4 _ (by decide) rfl, hb 5 _ (by decide) rfl, hb 6 _ (by decide) rfl, hb 7 _ (by decide) rfl, hb 8 _ (by decide) rfl, hb 9 _ (by decide) rfl, hb 10 _ (by decide) rfl, hb 11 _ (by decide) rfl, hb 12 _ (by decide) rfl, hb 13 _ (by decide) rfl]
    exact h
  clear hP hU hS
  have t0 : adr 0 = adr2 0 := (hadr 0 (Or.inl (by show 0 < 8 + 60 * n + 0; omega))).symm
  have t1 : adr 1 = adr2 1 := (hadr 1 (Or.inl (by show 1 < 8 + 60 * n + 0; omega))).symm
  replace hl : lv_has ls 4 [(0, .ref (adr2 0))] := by rw [← t0]; exact lv_sub hl [0] rfl
  rw [← hr0, t1]
  refine gw_aast F hK hR 1 3 (r := (RX2, TX2, 12)) rfl ((bl_out (Or.inl (by show 1 < 8 + 60 * n + 0; omega))).trans rfl) (nk n 0) 2 (bl_at (j := 0) (by decide)) rfl (vp_in_nI (by omega) (by decide)) dX6_keep_34 (fun H locs hR => ?_)
  rw [nI_clamp (by omega)] at hR
  have hme : ∀ e, va_up (bC (nk n 0) 60 (kL G adr2 n fa de (.null)) (ccel G adr2 n S Y L)) 1 e 0 = some (.inr (6, ofs adr2 S)) := fun e => (bl_out (Or.inl (by show 0 < 8 + 60 * n + 0; omega))).trans rfl
  refine lv_aload_n hx hb dX6_keep_35 rfl (lv_at hl 0 rfl) ?_
  refine lv_dup hx hb dX6_keep_36 rfl ?_
  refine gw_get F hK hR.1 0 (hme _) rfl inX6 1 (by decide) fl_X6_15 rfl dX6_keep_37 ?_
  refine lv_eq hs.2.1 ?_
  refine lv_iconst (v := nI 1) hx hb dX6_keep_40 (by decide) ?_
  refine nv_iadd hx hb dX6_keep_41 ?_
  refine gw_put F hK hR 0 (hme _) rfl inX6 tyX6 tyX6_ok nmX6 1 (by decide) fl_X6_15 rfl (ty := .int) rfl rfl rfl (Nat.le_of_ble_eq_true rfl) dX6_keep_42 (fun H locs hR => ?_)
  have hpv : va_rf (pref adr2 (mkS S n fa de (-1)) n) = .null := by rw [pref, mkS_3, if_pos rfl]; rfl
  replace hR : cB G A adr2 (n + 1) (mkS S n fa de (-1)) Y L s.heap H locs := gw_B.to hR (ccel_keep hz hpv)
  refine lv_aload_n hx hb dX6_keep_45 rfl (lv_at hl 0 rfl) ?_
  refine og_1 F hK hR fl_X6_15 dX6_keep_46 ?_
  refine lv_eq mkS_0 ?_
  refine lv_iconst (v := nI 1) hx hb dX6_keep_49 (by decide) ?_
  refine nv_isub (by omega) hx hb dX6_keep_50 ?_
  exact gr_iP F hr hlk hK hR dX6_keep_51 (by rw [Nat.add_sub_cancel]) (fun t ht => ⟨adr2, hadr, ht⟩)
set_option maxHeartbeats 4000000 in
set_option maxRecDepth 100000 in
/-- keep(..), where there is room -/
theorem c_X6_keepP (l : Launch) (G : gw_G) (A : Nat → Prop) (adr : Nat → Nat) (n : Nat) (S Y : Nat → Nat → Int32) (L : Int64) (z : Nat) (fa de : Int32) (hs : sI n S) (hz : zI n S) (hy : yI n Y) (hn : n < 12) (hfa : fa = 0 ∨ fa = 1) (hde : de = 0 ∨ de = 1) (hzn : z < n) : gm l yX6_keep cX6_keep 4 (some .int) (rmA 4 14 99) 14 99 A [.ref (adr 0), .int fa, .int de, .ref (adr (nk z 0))] (gWa G A adr (ccel G adr n S Y L)) (fun U => ∃ adr2 : Nat → Nat, (∀ k, k < nk n 0 ∨ nk n 0 + 60 ≤ k → adr2 k = adr k) ∧ gW G A adr2 (ccel G adr2 (n + 1) (mkS S n fa de (nI z)) Y L) U) (some (.int (nI n))) := by
  refine gm_ofA (own := RX6) (by decide) rfl (Nat.le_of_ble_eq_true rfl) ?_
  intro p e s m below meth c ls F hml hr hlk hnm hK hA hR hl
  have hx := F.1
  have hb := F.2.1
  replace hl : lv_has ls 4 [(0, .ref (adr 0)), (1, .int fa), (2, .int de), (3, .ref (adr (nk z 0)))] := hl
  refine lv_aload_n hx hb dX6_keep_0 rfl (lv_at hl 0 rfl) ?_
  refine og_1 F hK hR fl_X6_15 dX6_keep_1 ?_
  refine lv_eq (hs.2.1) ?_
  refine lv_bipush (v := nI 12) hx hb dX6_keep_4 (by decide) ?_
  refine nv_icmp_lt (by omega) (by omega) hx hb dX6_keep_6 (tgt := 12) (by decide) (fun c_6 => ?_) (fun c_6 => absurd c_6 (by omega))
  refine lv_aload_n hx hb dX6_keep_12 rfl (lv_at hl 0 rfl) ?_
  refine og_0 F hK hR fl_X6_11 dX6_keep_13 ?_
  refine lv_aload_n hx hb dX6_keep_16 rfl (lv_at hl 0 rfl) ?_
  refine og_1 F hK hR fl_X6_15 dX6_keep_17 ?_
  refine lv_eq (hs.2.1) ?_
  have hNone : ∀ j, j < 60 → ccel G adr n S Y L (nk n 0 + j) = none := fun j hj => by
    rw [show nk n 0 + j = (60 * n + j) + 8 from by show 8 + 60 * n + 0 + j = _; omega]
    show (if (60 * n + j) / 60 < n then _ else none) = none
    rw [if_neg (by omega)]
  have e1 : bC (nk n 0) 60 [] (ccel G adr n S Y L) = ccel G adr n S Y L := bl_ext (fun j hj => (hNone j hj).symm) (fun k hk => rfl)
  replace hR := gw_B.to2 hR (bN_0 (nk n 0) 60 adr).symm e1.symm
  refine gb_new F hK hA hR 0 2 (by decide) rfl rfl inX2 tyX2 tyX2_ok kl_X6_9 ia_X2 in_X2 (fs := [.int 0, .int 0, .int 0, .null, .null, .int 0, .null, .null, .null, .int 0, .null, .int 0]) (by decide +kernel) (Nat.le_of_ble_eq_true rfl) (Nat.le_of_ble_eq_true rfl) (L' := [(0, .inr (2, [.int 0, .int 0, .int 0, .null, .null, .int 0, .null, .null, .null, .int 0, .null, .int 0]))]) rfl dX6_keep_20 (fun r H hR => ?_)
  refine lv_dup hx hb dX6_keep_23 rfl ?_
  refine lv_aload_n hx hb dX6_keep_24 rfl (lv_at hl 0 rfl) ?_
  refine gb_getO F hK hR 0 (Or.inl (by show 0 < 8 + 60 * n + 0; omega)) rfl rfl inX6 1 (by decide) fl_X6_15 rfl dX6_keep_25 ?_
  refine lv_eq hs.2.1 ?_
  refine lv_iload_n hx hb dX6_keep_28 rfl (lv_at hl 1 rfl) ?_
  refine lv_iload_n hx hb dX6_keep_29 rfl (lv_at hl 2 rfl) ?_
  refine lv_aload_n hx hb dX6_keep_30 rfl (lv_at hl 3 rfl) ?_
  refine gcI (As := [.int (nI n), .int fa, .int de, .ref (adr (nk z 0))]) F hK hA hR hml ci_X6_156 (c_X2_initP l G A adr _ (nk n 0) r n (adr (nk z 0)) fa de hfa hde) ⟨rfl, rfl⟩ ⟨Nat.le_of_ble_eq_true rfl, Nat.le_of_ble_eq_true rfl⟩ rfl rfl hl.1 (Nat.le_of_ble_eq_true rfl) dX6_keep_31 ⟨Nat.le_of_ble_eq_true rfl, Nat.le_of_ble_eq_true rfl⟩ (fun U H locs hU hP hS => ?_)
  obtain ⟨q1, q2, q3, q4, q5, q6, q7, q8, q9, q10, q11, q12, q13, hP⟩ := hP
  obtain ⟨adr2, hadr, hr0, hR⟩ : ∃ adr2 : Nat → Nat, (∀ k, k < nk n 0 ∨ nk n 0 + 60 ≤ k → adr2 k = adr k) ∧ adr2 (nk n 0) = r ∧ gw_B G A adr2 (bC (nk n 0) 60 (kL G adr2 n fa de (.ref (adr2 (nk z 0)))) (ccel G adr2 n S Y L)) s.heap H locs := by
    have ha : ∀ k, k < nk n 0 ∨ nk n 0 + 60 ≤ k → (bN (nk n 0) 60 [(13, q13), (9, q9), (12, q12), (8, q8), (11, q11), (7, q7), (10, q10), (6, q6), (5, q5), (4, q4), (3, q3), (2, q2), (1, q1), (0, r)] adr) k = adr k := fun k hk => bl_out hk
    have hb : ∀ j v, j < 60 → lkn [(13, q13), (9, q9), (12, q12), (8, q8), (11, q11), (7, q7), (10, q10), (6, q6), (5, q5), (4, q4), (3, q3), (2, q2), (1, q1), (0, r)] (fun j => adr (nk n 0 + j)) j = v → (bN (nk n 0) 60 [(13, q13), (9, q9), (12, q12), (8, q8), (11, q11), (7, q7), (10, q10), (6, q6), (5, q5), (4, q4), (3, q3), (2, q2), (1, q1), (0, r)] adr) (nk n j) = v := fun j v hj hv => by
      rw [show nk n j = nk n 0 + j from by show 8 + 60 * n + j = 8 + 60 * n + 0 + j; omega]
      exact (bl_at hj).trans hv
    have hrm : rmR (bN (nk n 0) 60 [(13, q13), (9, q9), (12, q12), (8, q8), (11, q11), (7, q7), (10, q10), (6, q6), (5, q5), (4, q4), (3, q3), (2, q2), (1, q1), (0, r)] adr) Y = rmR adr Y := by
      funext i
      unfold rmR
      by_cases c : Y 4 i = -1
      · rw [if_pos c, if_pos c]
      · have h4 := (hy i).resolve_left c
        rw [if_neg c, if_neg c, ha _ (Or.inl (by show 8 + 60 * ((Y 4 i).toNatClampNeg / 4) + (6 + (Y 4 i).toNatClampNeg % 4) < 8 + 60 * n + 0; omega))]
    have hac : ccel G (bN (nk n 0) 60 [(13, q13), (9, q9), (12, q12), (8, q8), (11, q11), (7, q7), (10, q10), (6, q6), (5, q5), (4, q4), (3, q3), (2, q2), (1, q1), (0, r)] adr) n S Y L = ccel G adr n S Y L := ccel_adr hs (fun k hk => ha k (Or.inl (by show k < 8 + 60 * n + 0; omega))) (fun x2 j hx2 hj => ha _ (Or.inl (by show 8 + 60 * x2 + j < 8 + 60 * n + 0; omega))) (fun x2 q2 i hx2 hq2 hi => ha _ (Or.inl (by
      show 8 + 60 * x2 + (14 + 10 * q2 + i) < 8 + 60 * n + 0
      have h9 := (sI_ac hs (mm := 4 * x2 + q2) (by omega)).1
      omega))) hrm
    refine ⟨(bN (nk n 0) 60 [(13, q13), (9, q9), (12, q12), (8, q8), (11, q11), (7, q7), (10, q10), (6, q6), (5, q5), (4, q4), (3, q3), (2, q2), (1, q1), (0, r)] adr), ha, hb 0 _ (by decide) rfl, ?_⟩
    have h := gW_back hP hU hS
    unfold kL
    rw [hac, hb 1 _ (by decide) rfl, hb 2 _ (by decide) rfl, hb 3 _ (by decide) rfl, hb 4 _ (by decide) rfl, hb 5 _ (by decide) rfl, hb 6 _ (by decide) rfl, hb 7 _ (by decide) rfl, hb 8 _ (by decide) rfl, hb 9 _ (by decide) rfl, hb 10 _ (by decide) rfl, hb 11 _ (by decide) rfl, hb 12 _ (by decide) rfl, hb 13 _ (by decide) rfl, ha (nk z 0) (Or.inl (by show 8 + 60 * z + 0 < 8 + 60 * n + 0; omega))]
    exact h
  clear hP hU hS
  have t0 : adr 0 = adr2 0 := (hadr 0 (Or.inl (by show 0 < 8 + 60 * n + 0; omega))).symm
  have t1 : adr 1 = adr2 1 := (hadr 1 (Or.inl (by show 1 < 8 + 60 * n + 0; omega))).symm
  replace hl : lv_has ls 4 [(0, .ref (adr2 0))] := by rw [← t0]; exact lv_sub hl [0] rfl
  rw [← hr0, t1]
  refine gw_aast F hK hR 1 3 (r := (RX2, TX2, 12)) rfl ((bl_out (Or.inl (by show 1 < 8 + 60 * n + 0; omega))).trans rfl) (nk n 0) 2 (bl_at (j := 0) (by decide)) rfl (vp_in_nI (by omega) (by decide)) dX6_keep_34 (fun H locs hR => ?_)
  rw [nI_clamp (by omega)] at hR
  have hme : ∀ e, va_up (bC (nk n 0) 60 (kL G adr2 n fa de (.ref (adr2 (nk z 0)))) (ccel G adr2 n S Y L)) 1 e 0 = some (.inr (6, ofs adr2 S)) := fun e => (bl_out (Or.inl (by show 0 < 8 + 60 * n + 0; omega))).trans rfl
  refine lv_aload_n hx hb dX6_keep_35 rfl (lv_at hl 0 rfl) ?_
  refine lv_dup hx hb dX6_keep_36 rfl ?_
  refine gw_get F hK hR.1 0 (hme _) rfl inX6 1 (by decide) fl_X6_15 rfl dX6_keep_37 ?_
  refine lv_eq hs.2.1 ?_
  refine lv_iconst (v := nI 1) hx hb dX6_keep_40 (by decide) ?_
  refine nv_iadd hx hb dX6_keep_41 ?_
  refine gw_put F hK hR 0 (hme _) rfl inX6 tyX6 tyX6_ok nmX6 1 (by decide) fl_X6_15 rfl (ty := .int) rfl rfl rfl (Nat.le_of_ble_eq_true rfl) dX6_keep_42 (fun H locs hR => ?_)
  have hpv : va_rf (pref adr2 (mkS S n fa de (nI z)) n) = .ref (adr2 (nk z 0)) := by rw [pref, mkS_3, if_neg (nI_m1 (by omega)), nI_clamp (by omega)]; rfl
  replace hR : cB G A adr2 (n + 1) (mkS S n fa de (nI z)) Y L s.heap H locs := gw_B.to hR (ccel_keep hz hpv)
  refine lv_aload_n hx hb dX6_keep_45 rfl (lv_at hl 0 rfl) ?_
  refine og_1 F hK hR fl_X6_15 dX6_keep_46 ?_
  refine lv_eq mkS_0 ?_
  refine lv_iconst (v := nI 1) hx hb dX6_keep_49 (by decide) ?_
  refine nv_isub (by omega) hx hb dX6_keep_50 ?_
  exact gr_iP F hr hlk hK hR dX6_keep_51 (by rw [Nat.add_sub_cancel]) (fun t ht => ⟨adr2, hadr, ht⟩)
set_option maxHeartbeats 4000000 in
set_option maxRecDepth 100000 in
/-- keep(..): no room -/
theorem c_X6_keepFN (l : Launch) (G : gw_G) (A : Nat → Prop) (adr : Nat → Nat) (n : Nat) (S Y : Nat → Nat → Int32) (L : Int64) (fa de : Int32) (hs : sI n S) (hn : n = 12) : gm l yX6_keep cX6_keep 4 (some .int) (rmL 4) 0 0 A [.ref (adr 0), .int fa, .int de, .null] (gW G A adr (ccel G adr n S Y L)) (gW G A adr (ccel G adr n S Y L)) (some (.int (-5))) := by
  refine gm_of (own := RX6) (by decide) rfl (Nat.le_of_ble_eq_true rfl) ?_
  intro p e s m below meth c ls F hml hr hlk hnm hK hR hl
  have hx := F.1
  have hb := F.2.1
  replace hl : lv_has ls 4 [(0, .ref (adr 0)), (1, .int fa), (2, .int de), (3, .null)] := hl
  refine lv_aload_n hx hb dX6_keep_0 rfl (lv_at hl 0 rfl) ?_
  refine og_1 F hK hR fl_X6_15 dX6_keep_1 ?_
  refine lv_eq (hs.2.1) ?_
  refine lv_bipush (v := nI 12) hx hb dX6_keep_4 (by decide) ?_
  refine nv_icmp_lt (by omega) (by omega) hx hb dX6_keep_6 (tgt := 12) (by decide) (fun c_6 => absurd c_6 (by omega)) (fun c_6 => ?_)
  refine lv_bipush (v := (-5)) hx hb dX6_keep_9 (by decide) ?_
  exact gr_i F hr hlk hK hR dX6_keep_11 (rfl) (rfl)
set_option maxHeartbeats 4000000 in
set_option maxRecDepth 100000 in
/-- keep(..): no room -/
theorem c_X6_keepFP (l : Launch) (G : gw_G) (A : Nat → Prop) (adr : Nat → Nat) (n : Nat) (S Y : Nat → Nat → Int32) (L : Int64) (z : Nat) (fa de : Int32) (hs : sI n S) (hn : n = 12) : gm l yX6_keep cX6_keep 4 (some .int) (rmL 4) 0 0 A [.ref (adr 0), .int fa, .int de, .ref (adr (nk z 0))] (gW G A adr (ccel G adr n S Y L)) (gW G A adr (ccel G adr n S Y L)) (some (.int (-5))) := by
  refine gm_of (own := RX6) (by decide) rfl (Nat.le_of_ble_eq_true rfl) ?_
  intro p e s m below meth c ls F hml hr hlk hnm hK hR hl
  have hx := F.1
  have hb := F.2.1
  replace hl : lv_has ls 4 [(0, .ref (adr 0)), (1, .int fa), (2, .int de), (3, .ref (adr (nk z 0)))] := hl
  refine lv_aload_n hx hb dX6_keep_0 rfl (lv_at hl 0 rfl) ?_
  refine og_1 F hK hR fl_X6_15 dX6_keep_1 ?_
  refine lv_eq (hs.2.1) ?_
  refine lv_bipush (v := nI 12) hx hb dX6_keep_4 (by decide) ?_
  refine nv_icmp_lt (by omega) (by omega) hx hb dX6_keep_6 (tgt := 12) (by decide) (fun c_6 => absurd c_6 (by omega)) (fun c_6 => ?_)
  refine lv_bipush (v := (-5)) hx hb dX6_keep_9 (by decide) ?_
  exact gr_i F hr hlk hK hR dX6_keep_11 (rfl) (rfl)
theorem has_m1 (M : Int32) : sp_has M (-1) = 0 := by rw [sp_has, if_pos (by decide)]; rfl
set_option maxHeartbeats 4000000 in
set_option maxRecDepth 100000 in
/-- made: no such parent -/
theorem c_X6_madeU (l : Launch) (G : gw_G) (A : Nat → Prop) (adr : Nat → Nat) (n : Nat) (S Y : Nat → Nat → Int32) (L : Int64) (x0 : Int32) (hs : sI n S) (h1 : ¬ x0 = -1) (h0 : sp_has (S 0 0) x0 = 0) : gm l yX6_made cX6_made 3 (some .int) (rmL 5) 0 0 A [.ref (adr 0), .int x0] (gW G A adr (ccel G adr n S Y L)) (gW G A adr (ccel G adr n S Y L)) (some (.int (-2))) := by
  refine gm_of (own := RX6) (by decide) rfl (Nat.le_of_ble_eq_true rfl) ?_
  intro p e s m below meth c ls F hml hr hlk hnm hK hR hl
  have hx := F.1
  have hb := F.2.1
  replace hl : lv_has ls 3 [(0, .ref (adr 0)), (1, .int x0)] := hl
  have hn12 := hs.1
  have hn0 := hs.2.1
  refine lv_aload_n hx hb dX6_made_0 rfl (lv_at hl 0 rfl) ?_
  refine lv_iload_n hx hb dX6_made_1 rfl (lv_at hl 1 rfl) ?_
  refine gcV (As := [.int x0]) F hK hR hml cv_X6_33 (o := 0) (rfl) rfl rfl (c_X6_findN l G A adr n S Y L x0 hn0 hn12 h0) ⟨rfl, rfl⟩ ⟨Nat.le_of_ble_eq_true rfl, Nat.le_of_ble_eq_true rfl⟩ rfl rfl hl.1 (Nat.le_of_ble_eq_true rfl) dX6_made_2 ⟨Nat.zero_le _, Nat.zero_le _⟩ (fun H locs hR => ?_)
  refine lv_astore_nN (lv' := [(2, .null), (0, .ref (adr 0)), (1, .int x0)]) hx hb dX6_made_5 rfl hl (by decide) rfl (fun ls hl => ?_)
  refine lv_iload_n hx hb dX6_made_6 rfl (lv_at hl 2 rfl) ?_
  refine lv_iconst (v := (-1)) hx hb dX6_made_7 (by decide) ?_
  refine lv_icmp_eq (tgt := 18) hx hb dX6_made_8 (by decide) (fun c_8 => absurd c_8 (h1)) (fun c_8 => ?_)
  refine lv_aload_nN hx hb dX6_made_11 rfl (lv_at hl 0 rfl) ?_
  refine lv_ifnonnullN hx hb dX6_made_12 ?_
  refine lv_bipush (v := (-2)) hx hb dX6_made_15 (by decide) ?_
  exact gr_i F hr hlk hK hR dX6_made_17 (rfl) (rfl)
set_option maxHeartbeats 4000000 in
set_option maxRecDepth 100000 in
/-- made: the parent is a FACE -/
theorem c_X6_madeS (l : Launch) (G : gw_G) (A : Nat → Prop) (adr : Nat → Nat) (n : Nat) (S Y : Nat → Nat → Int32) (L : Int64) (x : Nat) (hs : sI n S) (hxn : x < n) (hf : ¬ S 1 x = 0) : gm l yX6_made cX6_made 3 (some .int) (rmL 5) 0 0 A [.ref (adr 0), .int (nI x)] (gW G A adr (ccel G adr n S Y L)) (gW G A adr (ccel G adr n S Y L)) (some (.int (-4))) := by
  refine gm_of (own := RX6) (by decide) rfl (Nat.le_of_ble_eq_true rfl) ?_
  intro p e s m below meth c ls F hml hr hlk hnm hK hR hl
  have hx := F.1
  have hb := F.2.1
  replace hl : lv_has ls 3 [(0, .ref (adr 0)), (1, .int (nI x))] := hl
  have hn12 := hs.1
  have hn0 := hs.2.1
  refine lv_aload_n hx hb dX6_made_0 rfl (lv_at hl 0 rfl) ?_
  refine lv_iload_n hx hb dX6_made_1 rfl (lv_at hl 1 rfl) ?_
  refine gcV (As := [.int (nI x)]) F hK hR hml cv_X6_33 (o := 0) (rfl) rfl rfl (c_X6_findY l G A adr n S Y L x hn0 hn12 (by omega)) ⟨rfl, rfl⟩ ⟨Nat.le_of_ble_eq_true rfl, Nat.le_of_ble_eq_true rfl⟩ rfl rfl hl.1 (Nat.le_of_ble_eq_true rfl) dX6_made_2 ⟨Nat.zero_le _, Nat.zero_le _⟩ (fun H locs hR => ?_)
  refine lv_astore_n (lv' := [(2, .ref (adr (nk x 0))), (0, .ref (adr 0)), (1, .int (nI x))]) hx hb dX6_made_5 rfl hl (by decide) rfl (fun ls hl => ?_)
  refine lv_iload_n hx hb dX6_made_6 rfl (lv_at hl 2 rfl) ?_
  refine lv_iconst (v := (-1)) hx hb dX6_made_7 (by decide) ?_
  refine lv_icmp_eq (tgt := 18) hx hb dX6_made_8 (by decide) (fun c_8 => ?_) (fun c_8 => ?_)
  · refine lv_aload_n hx hb dX6_made_18 rfl (lv_at hl 0 rfl) ?_
    refine lv_ifnull hx hb dX6_made_19 ?_
    refine lv_aload_n hx hb dX6_made_22 rfl (lv_at hl 0 rfl) ?_
    refine kg_1 F hK hR (by omega) fl_X6_37 dX6_made_23 ?_
    refine lv_if_eq (tgt := 32) hx hb dX6_made_26 (by decide) (fun c_26 => absurd c_26 (hf)) (fun c_26 => ?_)
    refine lv_bipush (v := (-4)) hx hb dX6_made_29 (by decide) ?_
    exact gr_i F hr hlk hK hR dX6_made_31 (rfl) (rfl)
  · refine lv_aload_n hx hb dX6_made_11 rfl (lv_at hl 0 rfl) ?_
    refine lv_ifnonnull (tgt := 18) hx hb dX6_made_12 (by decide) ?_
    refine lv_aload_n hx hb dX6_made_18 rfl (lv_at hl 0 rfl) ?_
    refine lv_ifnull hx hb dX6_made_19 ?_
    refine lv_aload_n hx hb dX6_made_22 rfl (lv_at hl 0 rfl) ?_
    refine kg_1 F hK hR (by omega) fl_X6_37 dX6_made_23 ?_
    refine lv_if_eq (tgt := 32) hx hb dX6_made_26 (by decide) (fun c_26 => absurd c_26 (hf)) (fun c_26 => ?_)
    refine lv_bipush (v := (-4)) hx hb dX6_made_29 (by decide) ?_
    exact gr_i F hr hlk hK hR dX6_made_31 (rfl) (rfl)
set_option maxHeartbeats 4000000 in
set_option maxRecDepth 100000 in
/-- made: no room -/
theorem c_X6_madeFN (l : Launch) (G : gw_G) (A : Nat → Prop) (adr : Nat → Nat) (n : Nat) (S Y : Nat → Nat → Int32) (L : Int64)  (hs : sI n S) (hn : n = 12) : gm l yX6_made cX6_made 3 (some .int) (rmL 5) 0 0 A [.ref (adr 0), .int (-1)] (gW G A adr (ccel G adr n S Y L)) (gW G A adr (ccel G adr n S Y L)) (some (.int (-5))) := by
  refine gm_of (own := RX6) (by decide) rfl (Nat.le_of_ble_eq_true rfl) ?_
  intro p e s m below meth c ls F hml hr hlk hnm hK hR hl
  have hx := F.1
  have hb := F.2.1
  replace hl : lv_has ls 3 [(0, .ref (adr 0)), (1, .int (-1))] := hl
  have hn12 := hs.1
  have hn0 := hs.2.1
  refine lv_aload_n hx hb dX6_made_0 rfl (lv_at hl 0 rfl) ?_
  refine lv_iload_n hx hb dX6_made_1 rfl (lv_at hl 1 rfl) ?_
  refine gcV (As := [.int (-1)]) F hK hR hml cv_X6_33 (o := 0) (rfl) rfl rfl (c_X6_findN l G A adr n S Y L (-1) hn0 hn12 (has_m1 _)) ⟨rfl, rfl⟩ ⟨Nat.le_of_ble_eq_true rfl, Nat.le_of_ble_eq_true rfl⟩ rfl rfl hl.1 (Nat.le_of_ble_eq_true rfl) dX6_made_2 ⟨Nat.zero_le _, Nat.zero_le _⟩ (fun H locs hR => ?_)
  refine lv_astore_nN (lv' := [(2, .null), (0, .ref (adr 0)), (1, .int (-1))]) hx hb dX6_made_5 rfl hl (by decide) rfl (fun ls hl => ?_)
  refine lv_iload_n hx hb dX6_made_6 rfl (lv_at hl 2 rfl) ?_
  refine lv_iconst (v := (-1)) hx hb dX6_made_7 (by decide) ?_
  refine lv_icmp_eq (tgt := 18) hx hb dX6_made_8 (by decide) (fun c_8 => ?_) (fun c_8 => absurd rfl c_8)
  refine lv_aload_nN hx hb dX6_made_18 rfl (lv_at hl 0 rfl) ?_
  refine lv_ifnullN (tgt := 32) hx hb dX6_made_19 (by decide) ?_
  refine lv_aload_n hx hb dX6_made_32 rfl (lv_at hl 1 rfl) ?_
  refine lv_iconst (v := nI 0) hx hb dX6_made_33 (by decide) ?_
  refine lv_iconst (v := nI 0) hx hb dX6_made_34 (by decide) ?_
  refine lv_aload_nN hx hb dX6_made_35 rfl (lv_at hl 0 rfl) ?_
  refine gcVi (As := [.int (nI 0), .int (nI 0), .null]) F hK hR hml cv_X6_41 (o := 0) (rfl) rfl rfl (c_X6_keepFN l G A adr n S Y L (nI 0) (nI 0) hs hn) ⟨rfl, rfl⟩ ⟨Nat.le_of_ble_eq_true rfl, Nat.le_of_ble_eq_true rfl⟩ rfl rfl hl.1 (Nat.le_of_ble_eq_true rfl) dX6_made_36 ⟨Nat.zero_le _, Nat.zero_le _⟩ (fun H locs hR => ?_)
  exact gr_i F hr hlk hK hR dX6_made_39 (rfl) (rfl)
set_option maxHeartbeats 4000000 in
set_option maxRecDepth 100000 in
/-- made: no room -/
theorem c_X6_madeFP (l : Launch) (G : gw_G) (A : Nat → Prop) (adr : Nat → Nat) (n : Nat) (S Y : Nat → Nat → Int32) (L : Int64) (x : Nat) (hs : sI n S) (hxn : x < n) (hf : S 1 x = 0) (hn : n = 12) : gm l yX6_made cX6_made 3 (some .int) (rmL 5) 0 0 A [.ref (adr 0), .int (nI x)] (gW G A adr (ccel G adr n S Y L)) (gW G A adr (ccel G adr n S Y L)) (some (.int (-5))) := by
  refine gm_of (own := RX6) (by decide) rfl (Nat.le_of_ble_eq_true rfl) ?_
  intro p e s m below meth c ls F hml hr hlk hnm hK hR hl
  have hx := F.1
  have hb := F.2.1
  replace hl : lv_has ls 3 [(0, .ref (adr 0)), (1, .int (nI x))] := hl
  have hn12 := hs.1
  have hn0 := hs.2.1
  refine lv_aload_n hx hb dX6_made_0 rfl (lv_at hl 0 rfl) ?_
  refine lv_iload_n hx hb dX6_made_1 rfl (lv_at hl 1 rfl) ?_
  refine gcV (As := [.int (nI x)]) F hK hR hml cv_X6_33 (o := 0) (rfl) rfl rfl (c_X6_findY l G A adr n S Y L x hn0 hn12 (by omega)) ⟨rfl, rfl⟩ ⟨Nat.le_of_ble_eq_true rfl, Nat.le_of_ble_eq_true rfl⟩ rfl rfl hl.1 (Nat.le_of_ble_eq_true rfl) dX6_made_2 ⟨Nat.zero_le _, Nat.zero_le _⟩ (fun H locs hR => ?_)
  refine lv_astore_n (lv' := [(2, .ref (adr (nk x 0))), (0, .ref (adr 0)), (1, .int (nI x))]) hx hb dX6_made_5 rfl hl (by decide) rfl (fun ls hl => ?_)
  refine lv_iload_n hx hb dX6_made_6 rfl (lv_at hl 2 rfl) ?_
  refine lv_iconst (v := (-1)) hx hb dX6_made_7 (by decide) ?_
  refine lv_icmp_eq (tgt := 18) hx hb dX6_made_8 (by decide) (fun c_8 => ?_) (fun c_8 => ?_)
  · refine lv_aload_n hx hb dX6_made_18 rfl (lv_at hl 0 rfl) ?_
    refine lv_ifnull hx hb dX6_made_19 ?_
    refine lv_aload_n hx hb dX6_made_22 rfl (lv_at hl 0 rfl) ?_
    refine kg_1 F hK hR (by omega) fl_X6_37 dX6_made_23 ?_
    refine lv_if_eq (tgt := 32) hx hb dX6_made_26 (by decide) (fun c_26 => ?_) (fun c_26 => absurd hf c_26)
    refine lv_aload_n hx hb dX6_made_32 rfl (lv_at hl 1 rfl) ?_
    refine lv_iconst (v := nI 0) hx hb dX6_made_33 (by decide) ?_
    refine lv_iconst (v := nI 0) hx hb dX6_made_34 (by decide) ?_
    refine lv_aload_n hx hb dX6_made_35 rfl (lv_at hl 0 rfl) ?_
    refine gcVi (As := [.int (nI 0), .int (nI 0), .ref (adr (nk x 0))]) F hK hR hml cv_X6_41 (o := 0) (rfl) rfl rfl (c_X6_keepFP l G A adr n S Y L x (nI 0) (nI 0) hs hn) ⟨rfl, rfl⟩ ⟨Nat.le_of_ble_eq_true rfl, Nat.le_of_ble_eq_true rfl⟩ rfl rfl hl.1 (Nat.le_of_ble_eq_true rfl) dX6_made_36 ⟨Nat.zero_le _, Nat.zero_le _⟩ (fun H locs hR => ?_)
    exact gr_i F hr hlk hK hR dX6_made_39 (rfl) (rfl)
  · refine lv_aload_n hx hb dX6_made_11 rfl (lv_at hl 0 rfl) ?_
    refine lv_ifnonnull (tgt := 18) hx hb dX6_made_12 (by decide) ?_
    refine lv_aload_n hx hb dX6_made_18 rfl (lv_at hl 0 rfl) ?_
    refine lv_ifnull hx hb dX6_made_19 ?_
    refine lv_aload_n hx hb dX6_made_22 rfl (lv_at hl 0 rfl) ?_
    refine kg_1 F hK hR (by omega) fl_X6_37 dX6_made_23 ?_
    refine lv_if_eq (tgt := 32) hx hb dX6_made_26 (by decide) (fun c_26 => ?_) (fun c_26 => absurd hf c_26)
    refine lv_aload_n hx hb dX6_made_32 rfl (lv_at hl 1 rfl) ?_
    refine lv_iconst (v := nI 0) hx hb dX6_made_33 (by decide) ?_
    refine lv_iconst (v := nI 0) hx hb dX6_made_34 (by decide) ?_
    refine lv_aload_n hx hb dX6_made_35 rfl (lv_at hl 0 rfl) ?_
    refine gcVi (As := [.int (nI 0), .int (nI 0), .ref (adr (nk x 0))]) F hK hR hml cv_X6_41 (o := 0) (rfl) rfl rfl (c_X6_keepFP l G A adr n S Y L x (nI 0) (nI 0) hs hn) ⟨rfl, rfl⟩ ⟨Nat.le_of_ble_eq_true rfl, Nat.le_of_ble_eq_true rfl⟩ rfl rfl hl.1 (Nat.le_of_ble_eq_true rfl) dX6_made_36 ⟨Nat.zero_le _, Nat.zero_le _⟩ (fun H locs hR => ?_)
    exact gr_i F hr hlk hK hR dX6_made_39 (rfl) (rfl)
set_option maxHeartbeats 4000000 in
set_option maxRecDepth 100000 in
/-- face: no room -/
theorem c_X6_faceF (l : Launch) (G : gw_G) (A : Nat → Prop) (adr : Nat → Nat) (n : Nat) (S Y : Nat → Nat → Int32) (L : Int64) (de : Int32) (hs : sI n S) (hn : n = 12) : gm l yX6_face cX6_face 2 (some .int) (rmL 5) 0 0 A [.ref (adr 0), .int de] (gW G A adr (ccel G adr n S Y L)) (gW G A adr (ccel G adr n S Y L)) (some (.int (-5))) := by
  refine gm_of (own := RX6) (by decide) rfl (Nat.le_of_ble_eq_true rfl) ?_
  intro p e s m below meth c ls F hml hr hlk hnm hK hR hl
  have hx := F.1
  have hb := F.2.1
  replace hl : lv_has ls 2 [(0, .ref (adr 0)), (1, .int de)] := hl
  have hn12 := hs.1
  have hn0 := hs.2.1
  refine lv_aload_n hx hb dX6_face_0 rfl (lv_at hl 0 rfl) ?_
  refine lv_iconst (v := nI 1) hx hb dX6_face_1 (by decide) ?_
  refine lv_iload_n hx hb dX6_face_2 rfl (lv_at hl 1 rfl) ?_
  refine lv_null hx hb dX6_face_3 ?_
  refine gcVi (As := [.int (nI 1), .int de, .null]) F hK hR hml cv_X6_41 (o := 0) (rfl) rfl rfl (c_X6_keepFN l G A adr n S Y L (nI 1) de hs hn) ⟨rfl, rfl⟩ ⟨Nat.le_of_ble_eq_true rfl, Nat.le_of_ble_eq_true rfl⟩ rfl rfl hl.1 (Nat.le_of_ble_eq_true rfl) dX6_face_4 ⟨Nat.zero_le _, Nat.zero_le _⟩ (fun H locs hR => ?_)
  exact gr_i F hr hlk hK hR dX6_face_7 (rfl) (rfl)
set_option maxHeartbeats 4000000 in
set_option maxRecDepth 100000 in
theorem c_X6_madeN (l : Launch) (G : gw_G) (A : Nat → Prop) (adr : Nat → Nat) (n : Nat) (S Y : Nat → Nat → Int32) (L : Int64)  (hs : sI n S) (hz : zI n S) (hy : yI n Y) (hn : n < 12)  : gm l yX6_made cX6_made 3 (some .int) (rmA 5 14 99) 14 99 A [.ref (adr 0), .int (-1)] (gWa G A adr (ccel G adr n S Y L)) (fun U => ∃ adr2 : Nat → Nat, (∀ k, k < nk n 0 ∨ nk n 0 + 60 ≤ k → adr2 k = adr k) ∧ gW G A adr2 (ccel G adr2 (n + 1) (mkS S n (nI 0) (nI 0) (-1)) Y L) U) (some (.int (nI n))) := by
  refine gm_ofA (own := RX6) (by decide) rfl (Nat.le_of_ble_eq_true rfl) ?_
  intro p e s m below meth c ls F hml hr hlk hnm hK hA hR hl
  have hx := F.1
  have hb := F.2.1
  have hn12 := hs.1
  have hn0 := hs.2.1
  replace hl : lv_has ls 3 [(0, .ref (adr 0)), (1, .int (-1))] := hl
  refine lv_aload_n hx hb dX6_made_0 rfl (lv_at hl 0 rfl) ?_
  refine lv_iload_n hx hb dX6_made_1 rfl (lv_at hl 1 rfl) ?_
  refine gcV (As := [.int (-1)]) F hK hR hml cv_X6_33 (o := 0) (rfl) rfl rfl (c_X6_findN l G A adr n S Y L (-1) hn0 hn12 (has_m1 _)) ⟨rfl, rfl⟩ ⟨Nat.le_of_ble_eq_true rfl, Nat.le_of_ble_eq_true rfl⟩ rfl rfl hl.1 (Nat.le_of_ble_eq_true rfl) dX6_made_2 ⟨Nat.zero_le _, Nat.zero_le _⟩ (fun H locs hR => ?_)
  refine lv_astore_nN (lv' := [(2, .null), (0, .ref (adr 0)), (1, .int (-1))]) hx hb dX6_made_5 rfl hl (by decide) rfl (fun ls hl => ?_)
  refine lv_iload_n hx hb dX6_made_6 rfl (lv_at hl 2 rfl) ?_
  refine lv_iconst (v := (-1)) hx hb dX6_made_7 (by decide) ?_
  refine lv_icmp_eq (tgt := 18) hx hb dX6_made_8 (by decide) (fun c_8 => ?_) (fun c_8 => absurd rfl c_8)
  refine lv_aload_nN hx hb dX6_made_18 rfl (lv_at hl 0 rfl) ?_
  refine lv_ifnullN (tgt := 32) hx hb dX6_made_19 (by decide) ?_
  refine lv_aload_n hx hb dX6_made_32 rfl (lv_at hl 1 rfl) ?_
  refine lv_iconst (v := nI 0) hx hb dX6_made_33 (by decide) ?_
  refine lv_iconst (v := nI 0) hx hb dX6_made_34 (by decide) ?_
  refine lv_aload_nN hx hb dX6_made_35 rfl (lv_at hl 0 rfl) ?_
  refine gcVa (As := [.int (nI 0), .int (nI 0), .null]) F hK hA hR hml cv_X6_41 (o := 0) rfl rfl rfl (c_X6_keepN l G A adr n S Y L (nI 0) (nI 0) hs hz hy hn (Or.inl rfl) (Or.inl rfl)) ⟨rfl, rfl⟩ ⟨Nat.le_of_ble_eq_true rfl, Nat.le_of_ble_eq_true rfl⟩ rfl rfl hl.1 (Nat.le_of_ble_eq_true rfl) dX6_made_36 ⟨Nat.le_of_ble_eq_true rfl, Nat.le_of_ble_eq_true rfl⟩ (fun U H locs hU hP hS => ?_)
  obtain ⟨adr2, hadr, hP⟩ := hP
  exact gr_iP F hr hlk hK (gW_back hP hU hS) dX6_made_39 rfl (fun t ht => ⟨adr2, hadr, ht⟩)
set_option maxHeartbeats 4000000 in
set_option maxRecDepth 100000 in
theorem c_X6_madeP (l : Launch) (G : gw_G) (A : Nat → Prop) (adr : Nat → Nat) (n : Nat) (S Y : Nat → Nat → Int32) (L : Int64) (x : Nat) (hs : sI n S) (hz : zI n S) (hy : yI n Y) (hn : n < 12) (hxn : x < n) (hf : S 1 x = 0) : gm l yX6_made cX6_made 3 (some .int) (rmA 5 14 99) 14 99 A [.ref (adr 0), .int (nI x)] (gWa G A adr (ccel G adr n S Y L)) (fun U => ∃ adr2 : Nat → Nat, (∀ k, k < nk n 0 ∨ nk n 0 + 60 ≤ k → adr2 k = adr k) ∧ gW G A adr2 (ccel G adr2 (n + 1) (mkS S n (nI 0) (nI 0) (nI x)) Y L) U) (some (.int (nI n))) := by
  refine gm_ofA (own := RX6) (by decide) rfl (Nat.le_of_ble_eq_true rfl) ?_
  intro p e s m below meth c ls F hml hr hlk hnm hK hA hR hl
  have hx := F.1
  have hb := F.2.1
  have hn12 := hs.1
  have hn0 := hs.2.1
  replace hl : lv_has ls 3 [(0, .ref (adr 0)), (1, .int (nI x))] := hl
  refine lv_aload_n hx hb dX6_made_0 rfl (lv_at hl 0 rfl) ?_
  refine lv_iload_n hx hb dX6_made_1 rfl (lv_at hl 1 rfl) ?_
  refine gcV (As := [.int (nI x)]) F hK hR hml cv_X6_33 (o := 0) (rfl) rfl rfl (c_X6_findY l G A adr n S Y L x hn0 hn12 (by omega)) ⟨rfl, rfl⟩ ⟨Nat.le_of_ble_eq_true rfl, Nat.le_of_ble_eq_true rfl⟩ rfl rfl hl.1 (Nat.le_of_ble_eq_true rfl) dX6_made_2 ⟨Nat.zero_le _, Nat.zero_le _⟩ (fun H locs hR => ?_)
  refine lv_astore_n (lv' := [(2, .ref (adr (nk x 0))), (0, .ref (adr 0)), (1, .int (nI x))]) hx hb dX6_made_5 rfl hl (by decide) rfl (fun ls hl => ?_)
  refine lv_iload_n hx hb dX6_made_6 rfl (lv_at hl 2 rfl) ?_
  refine lv_iconst (v := (-1)) hx hb dX6_made_7 (by decide) ?_
  refine lv_icmp_eq (tgt := 18) hx hb dX6_made_8 (by decide) (fun c_8 => ?_) (fun c_8 => ?_)
  · refine lv_aload_n hx hb dX6_made_18 rfl (lv_at hl 0 rfl) ?_
    refine lv_ifnull hx hb dX6_made_19 ?_
    refine lv_aload_n hx hb dX6_made_22 rfl (lv_at hl 0 rfl) ?_
    refine kg_1 F hK hR (by omega) fl_X6_37 dX6_made_23 ?_
    refine lv_if_eq (tgt := 32) hx hb dX6_made_26 (by decide) (fun c_26 => ?_) (fun c_26 => absurd hf c_26)
    refine lv_aload_n hx hb dX6_made_32 rfl (lv_at hl 1 rfl) ?_
    refine lv_iconst (v := nI 0) hx hb dX6_made_33 (by decide) ?_
    refine lv_iconst (v := nI 0) hx hb dX6_made_34 (by decide) ?_
    refine lv_aload_n hx hb dX6_made_35 rfl (lv_at hl 0 rfl) ?_
    refine gcVa (As := [.int (nI 0), .int (nI 0), .ref (adr (nk x 0))]) F hK hA hR hml cv_X6_41 (o := 0) rfl rfl rfl (c_X6_keepP l G A adr n S Y L x (nI 0) (nI 0) hs hz hy hn (Or.inl rfl) (Or.inl rfl) hxn) ⟨rfl, rfl⟩ ⟨Nat.le_of_ble_eq_true rfl, Nat.le_of_ble_eq_true rfl⟩ rfl rfl hl.1 (Nat.le_of_ble_eq_true rfl) dX6_made_36 ⟨Nat.le_of_ble_eq_true rfl, Nat.le_of_ble_eq_true rfl⟩ (fun U H locs hU hP hS => ?_)
    obtain ⟨adr2, hadr, hP⟩ := hP
    exact gr_iP F hr hlk hK (gW_back hP hU hS) dX6_made_39 rfl (fun t ht => ⟨adr2, hadr, ht⟩)
  · refine lv_aload_n hx hb dX6_made_11 rfl (lv_at hl 0 rfl) ?_
    refine lv_ifnonnull (tgt := 18) hx hb dX6_made_12 (by decide) ?_
    refine lv_aload_n hx hb dX6_made_18 rfl (lv_at hl 0 rfl) ?_
    refine lv_ifnull hx hb dX6_made_19 ?_
    refine lv_aload_n hx hb dX6_made_22 rfl (lv_at hl 0 rfl) ?_
    refine kg_1 F hK hR (by omega) fl_X6_37 dX6_made_23 ?_
    refine lv_if_eq (tgt := 32) hx hb dX6_made_26 (by decide) (fun c_26 => ?_) (fun c_26 => absurd hf c_26)
    refine lv_aload_n hx hb dX6_made_32 rfl (lv_at hl 1 rfl) ?_
    refine lv_iconst (v := nI 0) hx hb dX6_made_33 (by decide) ?_
    refine lv_iconst (v := nI 0) hx hb dX6_made_34 (by decide) ?_
    refine lv_aload_n hx hb dX6_made_35 rfl (lv_at hl 0 rfl) ?_
    refine gcVa (As := [.int (nI 0), .int (nI 0), .ref (adr (nk x 0))]) F hK hA hR hml cv_X6_41 (o := 0) rfl rfl rfl (c_X6_keepP l G A adr n S Y L x (nI 0) (nI 0) hs hz hy hn (Or.inl rfl) (Or.inl rfl) hxn) ⟨rfl, rfl⟩ ⟨Nat.le_of_ble_eq_true rfl, Nat.le_of_ble_eq_true rfl⟩ rfl rfl hl.1 (Nat.le_of_ble_eq_true rfl) dX6_made_36 ⟨Nat.le_of_ble_eq_true rfl, Nat.le_of_ble_eq_true rfl⟩ (fun U H locs hU hP hS => ?_)
    obtain ⟨adr2, hadr, hP⟩ := hP
    exact gr_iP F hr hlk hK (gW_back hP hU hS) dX6_made_39 rfl (fun t ht => ⟨adr2, hadr, ht⟩)
set_option maxHeartbeats 4000000 in
set_option maxRecDepth 100000 in
theorem c_X6_faceK (l : Launch) (G : gw_G) (A : Nat → Prop) (adr : Nat → Nat) (n : Nat) (S Y : Nat → Nat → Int32) (L : Int64) (de : Int32) (hs : sI n S) (hz : zI n S) (hy : yI n Y) (hn : n < 12) (hde : de = 0 ∨ de = 1) : gm l yX6_face cX6_face 2 (some .int) (rmA 5 14 99) 14 99 A [.ref (adr 0), .int de] (gWa G A adr (ccel G adr n S Y L)) (fun U => ∃ adr2 : Nat → Nat, (∀ k, k < nk n 0 ∨ nk n 0 + 60 ≤ k → adr2 k = adr k) ∧ gW G A adr2 (ccel G adr2 (n + 1) (mkS S n (nI 1) de (-1)) Y L) U) (some (.int (nI n))) := by
  refine gm_ofA (own := RX6) (by decide) rfl (Nat.le_of_ble_eq_true rfl) ?_
  intro p e s m below meth c ls F hml hr hlk hnm hK hA hR hl
  have hx := F.1
  have hb := F.2.1
  have hn12 := hs.1
  have hn0 := hs.2.1
  replace hl : lv_has ls 2 [(0, .ref (adr 0)), (1, .int de)] := hl
  refine lv_aload_n hx hb dX6_face_0 rfl (lv_at hl 0 rfl) ?_
  refine lv_iconst (v := nI 1) hx hb dX6_face_1 (by decide) ?_
  refine lv_iload_n hx hb dX6_face_2 rfl (lv_at hl 1 rfl) ?_
  refine lv_null hx hb dX6_face_3 ?_
  refine gcVa (As := [.int (nI 1), .int de, .null]) F hK hA hR hml cv_X6_41 (o := 0) rfl rfl rfl (c_X6_keepN l G A adr n S Y L (nI 1) de hs hz hy hn (Or.inr rfl) hde) ⟨rfl, rfl⟩ ⟨Nat.le_of_ble_eq_true rfl, Nat.le_of_ble_eq_true rfl⟩ rfl rfl hl.1 (Nat.le_of_ble_eq_true rfl) dX6_face_4 ⟨Nat.le_of_ble_eq_true rfl, Nat.le_of_ble_eq_true rfl⟩ (fun U H locs hU hP hS => ?_)
  obtain ⟨adr2, hadr, hP⟩ := hP
  exact gr_iP F hr hlk hK (gW_back hP hU hS) dX6_face_7 rfl (fun t ht => ⟨adr2, hadr, ht⟩)
