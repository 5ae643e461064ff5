/-! THE CLASS, 16: its picture under another map of names; an act that is put behind -/
theorem oth_lt {n x p : Nat} {S : Nat → Nat → Int32} (h : okAct S n p) (hn : n ≤ 12) (hx : x < n) : oth (S 11) x p < n := by
  obtain ⟨so, h12, hso, -, h3, h7⟩ := h
  unfold oth
  rw [hso, nI_clamp (by omega)]
  split
  · rename_i c
    obtain ⟨z, hz, hze⟩ := h3 c
    rw [hze, nI_clamp (by omega)]; exact hz
  · split
    · rename_i c
      obtain ⟨z, hz, hze⟩ := h7 c
      rw [hze, nI_clamp (by omega)]; exact hz
    · exact hx
theorem kcel_adr {G : gw_G} {adr adr2 : Nat → Nat} {n x j : Nat} {S : Nat → Nat → Int32} (hs : sI n S) (hx : x < n) (hk : ∀ x j, x < n → j < 14 → adr2 (nk x j) = adr (nk x j)) (ha : ∀ q i, q < 4 → i < (S 10 (4 * x + q)).toNatClampNeg → adr2 (nk x (14 + 10 * q + i)) = adr (nk x (14 + 10 * q + i))) : kcel G adr2 S x j = kcel G adr S x j := by
  have hn := hs.1
  have ep : pref adr2 S x = pref adr S x := by
    unfold pref
    by_cases c : S 3 x = -1
    · rw [if_pos c, if_pos c]
    · rw [if_neg c, if_neg c, hk _ 0 (by have := (sI_par hs hx c).1; omega) (by omega)]
  have ef : fcR adr2 S x = fcR adr S x := by
    funext i
    unfold fcR
    by_cases c : i < (S 4 x).toNatClampNeg
    · rw [if_pos c, if_pos c, hk _ 0 (by have := (sI_face hs hx c).1; omega) (by omega)]
    · rw [if_neg c, if_neg c]
  have ek : kfs adr2 S x = kfs adr S x := by
    unfold kfs
    rw [ep, hk x 1 hx (by omega), hk x 2 hx (by omega), hk x 3 hx (by omega), hk x 4 hx (by omega), hk x 5 hx (by omega)]
  have em : mtR adr2 x = mtR adr x := by
    funext i
    unfold mtR
    by_cases c : i < 4
    · rw [if_pos c, if_pos c, hk x (6 + i) hx (by omega)]
    · rw [if_neg c, if_neg c]
  have ea : ∀ q, q < 4 → acR adr2 S x q = acR adr S x q := by
    intro q hq
    funext i
    unfold acR
    by_cases c : i < (S 10 (4 * x + q)).toNatClampNeg
    · rw [if_pos c, if_pos c, ha q i hq c]
    · rw [if_neg c, if_neg c]
  unfold kcel
  rw [ek, ef, em]
  by_cases c0 : j = 0
  · rw [if_pos c0, if_pos c0]
  rw [if_neg c0, if_neg c0]
  by_cases c1 : j = 1
  · rw [if_pos c1, if_pos c1]
  rw [if_neg c1, if_neg c1]
  by_cases c2 : j = 2
  · rw [if_pos c2, if_pos c2]
  rw [if_neg c2, if_neg c2]
  by_cases c3 : j = 3
  · rw [if_pos c3, if_pos c3]
  rw [if_neg c3, if_neg c3]
  by_cases c4 : j = 4
  · rw [if_pos c4, if_pos c4]
  rw [if_neg c4, if_neg c4]
  by_cases c5 : j = 5
  · rw [if_pos c5, if_pos c5]
  rw [if_neg c5, if_neg c5]
  by_cases c6 : j < 10
  · rw [if_pos c6, if_pos c6]
    unfold mfs
    rw [hk x (10 + (j - 6)) hx (by omega)]
  rw [if_neg c6, if_neg c6]
  by_cases c7 : j < 14
  · rw [if_pos c7, if_pos c7, ea (j - 10) (by omega)]
  rw [if_neg c7, if_neg c7]
  by_cases c8 : j < 54 ∧ (j - 14) % 10 < (S 10 (4 * x + (j - 14) / 10)).toNatClampNeg
  · rw [if_pos c8, if_pos c8]
    unfold afs
    have hlt := oth_lt (x := x) (sI_act hs hx (show (j - 14) / 10 < 4 by omega) c8.2) hn hx
    rw [hk _ 0 (show oth (S 11) x (40 * (4 * x + (j - 14) / 10) + 4 * ((j - 14) % 10)) < n from hlt) (by omega)]
  · rw [if_neg c8, if_neg c8]
theorem ccel_adr {G : gw_G} {adr adr2 : Nat → Nat} {n : Nat} {S Y : Nat → Nat → Int32} {L : Int64} (hs : sI n S) (h8 : ∀ k, k < 8 → adr2 k = adr k) (hk : ∀ x j, x < n → j < 14 → adr2 (nk x j) = adr (nk x j)) (ha : ∀ x q i, x < n → q < 4 → i < (S 10 (4 * x + q)).toNatClampNeg → adr2 (nk x (14 + 10 * q + i)) = adr (nk x (14 + 10 * q + i))) (hy : rmR adr2 Y = rmR adr Y) : ccel G adr2 n S Y L = ccel G adr n S Y L := by
  funext a
  match a with
  | 0 => simp only [ccel, ofs, h8 1 (by decide), h8 2 (by decide), h8 6 (by decide)]
  | 1 =>
    have e : kdR adr2 n = kdR adr n := by
      funext i
      unfold kdR
      by_cases c : i < n
      · rw [if_pos c, if_pos c, hk i 0 c (by omega)]
      · rw [if_neg c, if_neg c]
    simp only [ccel, e]
  | 2 => simp only [ccel, h8 3 (by decide)]
  | 3 => simp only [ccel, jfs, h8 4 (by decide), h8 5 (by decide)]
  | 4 => rfl
  | 5 => rfl
  | 6 => simp only [ccel, rfl5, h8 7 (by decide)]
  | 7 => simp only [ccel, hy]
  | b + 8 =>
    simp only [ccel]
    by_cases c : b / 60 < n
    · rw [if_pos c, if_pos c, kcel_adr hs c hk (fun q i hq hi => ha _ q i c hq hi)]
    · rw [if_neg c, if_neg c]
theorem act2_ne {S : Nat → Nat → Int32} {mm k a : Nat} {x2 x3 x4 x5 : Int32} (h1 : a ≠ 10) (h2 : a ≠ 11) : sp_act2 S mm k x2 x3 x4 x5 a = S a := by
  unfold sp_act2
  rw [m2_ne h1, m2_ne h2, m2_ne h2, m2_ne h2, m2_ne h2]
theorem act2_10 {S : Nat → Nat → Int32} {mm k : Nat} {x2 x3 x4 x5 : Int32} : sp_act2 S mm k x2 x3 x4 x5 10 mm = nI (k + 1) := by
  unfold sp_act2
  exact m2_at
theorem act2_10o {S : Nat → Nat → Int32} {mm k j : Nat} {x2 x3 x4 x5 : Int32} (h : j ≠ mm) : sp_act2 S mm k x2 x3 x4 x5 10 j = S 10 j := by
  unfold sp_act2
  rw [m2_o h, m2_nk (show 10 ≠ 11 by decide), m2_nk (show 10 ≠ 11 by decide), m2_nk (show 10 ≠ 11 by decide), m2_nk (show 10 ≠ 11 by decide)]
theorem act2_11o {S : Nat → Nat → Int32} {mm k p : Nat} {x2 x3 x4 x5 : Int32} (h : p < 40 * mm + 4 * k ∨ 40 * mm + 4 * k + 4 ≤ p) : sp_act2 S mm k x2 x3 x4 x5 11 p = S 11 p := by
  unfold sp_act2
  rw [m2_nk (show 11 ≠ 10 by decide), m2_o (by omega), m2_o (by omega), m2_o (by omega), m2_o (by omega)]
theorem act2_0 {S : Nat → Nat → Int32} {mm k : Nat} {x2 x3 x4 x5 : Int32} : sp_act2 S mm k x2 x3 x4 x5 11 (40 * mm + 4 * k) = x2 := by
  unfold sp_act2
  rw [m2_nk (show 11 ≠ 10 by decide), m2_o (by omega), m2_o (by omega), m2_o (by omega), m2_at]
theorem act2_1 {S : Nat → Nat → Int32} {mm k : Nat} {x2 x3 x4 x5 : Int32} : sp_act2 S mm k x2 x3 x4 x5 11 (40 * mm + 4 * k + 1) = x3 := by
  unfold sp_act2
  rw [m2_nk (show 11 ≠ 10 by decide), m2_o (by omega), m2_o (by omega), m2_at]
theorem act2_2 {S : Nat → Nat → Int32} {mm k : Nat} {x2 x3 x4 x5 : Int32} : sp_act2 S mm k x2 x3 x4 x5 11 (40 * mm + 4 * k + 2) = x4 := by
  unfold sp_act2
  rw [m2_nk (show 11 ≠ 10 by decide), m2_o (by omega), m2_at]
theorem act2_3 {S : Nat → Nat → Int32} {mm k : Nat} {x2 x3 x4 x5 : Int32} : sp_act2 S mm k x2 x3 x4 x5 11 (40 * mm + 4 * k + 3) = x5 := by
  unfold sp_act2
  rw [m2_nk (show 11 ≠ 10 by decide), m2_at]
theorem act2_lg {S : Nat → Nat → Int32} {mm k mm2 i : Nat} {x2 x3 x4 x5 : Int32} (hk : k < 10) (hi : i < 10) (h : mm2 ≠ mm ∨ i < k) : lgI (sp_act2 S mm k x2 x3 x4 x5 11) mm2 i = lgI (S 11) mm2 i := by
  have e : ∀ j c, j ≤ i → c < 4 → sp_act2 S mm k x2 x3 x4 x5 11 (40 * mm2 + 4 * j + c) = S 11 (40 * mm2 + 4 * j + c) := fun j c hj hc => act2_11o (by omega)
  unfold lgI
  rw [show sp_act2 S mm k x2 x3 x4 x5 11 (40 * mm2 + 4 * i) = S 11 (40 * mm2 + 4 * i) from e i 0 (by omega) (by omega), lgN_congr (fun j hj => ⟨e j 0 hj (by omega), e j 1 hj (by omega)⟩)]
theorem act2_lgN {S : Nat → Nat → Int32} {mm k : Nat} {x3 x4 x5 : Int32} : lgI (sp_act2 S mm k (nI 11) x3 x4 x5 11) mm k = nI (lgX (S 11) mm k x3.toNatClampNeg) := by
  have e : ∀ j c, j < k → c < 4 → sp_act2 S mm k (nI 11) x3 x4 x5 11 (40 * mm + 4 * j + c) = S 11 (40 * mm + 4 * j + c) := fun j c hj hc => act2_11o (by omega)
  rw [lgI, act2_0, if_pos rfl, lgN_B, act2_1, lgX, lgT_congr k (fun j hj => ⟨e j 0 hj (by omega), e j 1 hj (by omega)⟩), lgB_congr k (fun j hj => e j 0 hj (by omega))]
theorem afs_eq {adr : Nat → Nat} {S S2 : Nat → Nat → Int32} {x q i : Nat} (h : ∀ c, c < 4 → S2 11 (40 * (4 * x + q) + 4 * i + c) = S 11 (40 * (4 * x + q) + 4 * i + c)) (hl : lgI (S2 11) (4 * x + q) i = lgI (S 11) (4 * x + q) i) : afs adr S2 x q i = afs adr S x q i := by
  have h0 : S2 11 (40 * (4 * x + q) + 4 * i) = S 11 (40 * (4 * x + q) + 4 * i) := h 0 (by omega)
  unfold afs oth
  rw [h0, h 1 (by omega), h 2 (by omega), h 3 (by omega), hl]
theorem kcel_act {G : gw_G} {adr : Nat → Nat} {S : Nat → Nat → Int32} {x q ac x' j : Nat} {x2 x3 x4 x5 : Int32} (hq : q < 4) (hac : S 10 (4 * x + q) = nI ac) (h10 : ac < 10) (hne : ¬ (x' = x ∧ (j = 6 + q ∨ j = 10 + q ∨ j = 14 + 10 * q + ac))) : kcel G adr (sp_act2 S (4 * x + q) ac x2 x3 x4 x5) x' j = kcel G adr S x' j := by
  have e : ∀ a, a ≠ 10 → a ≠ 11 → sp_act2 S (4 * x + q) ac x2 x3 x4 x5 a = S a := fun a h1 h2 => act2_ne h1 h2
  unfold kcel
  have ek : kfs adr (sp_act2 S (4 * x + q) ac x2 x3 x4 x5) x' = kfs adr S x' := by
    unfold kfs pref
    rw [e 1 (by decide) (by decide), e 2 (by decide) (by decide), e 3 (by decide) (by decide), e 4 (by decide) (by decide), e 8 (by decide) (by decide), e 12 (by decide) (by decide)]
  have ef : fcR adr (sp_act2 S (4 * x + q) ac x2 x3 x4 x5) x' = fcR adr S x' := by
    unfold fcR
    rw [e 4 (by decide) (by decide), e 5 (by decide) (by decide)]
  rw [ek, ef, e 6 (by decide) (by decide), e 7 (by decide) (by decide), e 9 (by decide) (by decide)]
  by_cases c0 : j = 0
  · rw [if_pos c0, if_pos c0]
  rw [if_neg c0, if_neg c0]
  by_cases c1 : j = 1
  · rw [if_pos c1, if_pos c1]
  rw [if_neg c1, if_neg c1]
  by_cases c2 : j = 2
  · rw [if_pos c2, if_pos c2]
  rw [if_neg c2, if_neg c2]
  by_cases c3 : j = 3
  · rw [if_pos c3, if_pos c3]
  rw [if_neg c3, if_neg c3]
  by_cases c4 : j = 4
  · rw [if_pos c4, if_pos c4]
  rw [if_neg c4, if_neg c4]
  by_cases c5 : j = 5
  · rw [if_pos c5, if_pos c5]
  rw [if_neg c5, if_neg c5]
  by_cases c6 : j < 10
  · rw [if_pos c6, if_pos c6]
    unfold mfs
    rw [act2_10o (by omega)]
  rw [if_neg c6, if_neg c6]
  by_cases c7 : j < 14
  · rw [if_pos c7, if_pos c7]
    unfold acR
    rw [act2_10o (by omega)]
  rw [if_neg c7, if_neg c7]
  by_cases c9 : j < 54
  · have ec : ((j - 14) % 10 < (sp_act2 S (4 * x + q) ac x2 x3 x4 x5 10 (4 * x' + (j - 14) / 10)).toNatClampNeg) ↔ ((j - 14) % 10 < (S 10 (4 * x' + (j - 14) / 10)).toNatClampNeg) := by
      by_cases d : 4 * x' + (j - 14) / 10 = 4 * x + q
      · rw [d, act2_10, hac, nI_clamp (by omega), nI_clamp (by omega)]
        omega
      · rw [act2_10o d]
    by_cases c8 : (j - 14) % 10 < (S 10 (4 * x' + (j - 14) / 10)).toNatClampNeg
    · rw [if_pos ⟨c9, ec.mpr c8⟩, if_pos ⟨c9, c8⟩]
      have hor : 4 * x' + (j - 14) / 10 ≠ 4 * x + q ∨ (j - 14) % 10 < ac := by
        by_cases d : 4 * x' + (j - 14) / 10 = 4 * x + q
        · rw [d, hac, nI_clamp (by omega)] at c8
          exact Or.inr c8
        · exact Or.inl d
      rw [afs_eq (fun c hc => act2_11o (by omega)) (act2_lg h10 (by omega) hor)]
    · rw [if_neg (fun q => c8 (ec.mp q.2)), if_neg (fun q => c8 q.2)]
  · rw [if_neg (fun q => c9 q.1), if_neg (fun q => c9 q.1)]
theorem ccel_act {G : gw_G} {adr : Nat → Nat} {n : Nat} {S Y : Nat → Nat → Int32} {L : Int64} {x q ac z r : Nat} {x2 x3 x4 x5 lg : Int32} (hx : x < n) (hq : q < 4) (hac : S 10 (4 * x + q) = nI ac) (h10 : ac < 10) (hz : oth (sp_act2 S (4 * x + q) ac x2 x3 x4 x5 11) x (40 * (4 * x + q) + 4 * ac) = z) (hlg : lgI (sp_act2 S (4 * x + q) ac x2 x3 x4 x5 11) (4 * x + q) ac = lg) (hr : adr (nk x (14 + 10 * q + ac)) = r) :
    va_up (va_up (bC (nk x (14 + 10 * q + ac)) 1 [(0, .inr (0, [.int x2, .ref (adr (nk z 0)), .int x3, .int x4, .int x5, .int lg]))] (ccel G adr n S Y L)) (nk x (10 + q)) (some (.inl (G.2 2, 10, qr (va_up (acR adr S x q) ac (some r)))))) (nk x (6 + q)) (some (.inr (4, (mfs adr S x q).set 2 (.int (nI (ac + 1)))))) = ccel G adr n (sp_act2 S (4 * x + q) ac x2 x3 x4 x5) Y L := by
  have e : ∀ a, a ≠ 10 → a ≠ 11 → sp_act2 S (4 * x + q) ac x2 x3 x4 x5 a = S a := fun a h1 h2 => act2_ne h1 h2
  funext a
  by_cases a1 : a = nk x (6 + q)
  · subst a1
    rw [ccel_k hx (by omega), kc_m hq]
    simp only [va_up, if_true, mfs, act2_10, List.set]
  by_cases a2 : a = nk x (10 + q)
  · subst a2
    rw [show va_up (va_up (bC (nk x (14 + 10 * q + ac)) 1 [(0, .inr (0, [.int x2, .ref (adr (nk z 0)), .int x3, .int x4, .int x5, .int lg]))] (ccel G adr n S Y L)) (nk x (10 + q)) (some (.inl (G.2 2, 10, qr (va_up (acR adr S x q) ac (some r)))))) (nk x (6 + q)) (some (.inr (4, (mfs adr S x q).set 2 (.int (nI (ac + 1)))))) (nk x (10 + q)) = some (.inl (G.2 2, 10, qr (va_up (acR adr S x q) ac (some r)))) by simp only [va_up, if_neg a1, if_true], ccel_k hx (by omega)]
    unfold kcel
    rw [if_neg (by omega), if_neg (by omega), if_neg (by omega), if_neg (by omega), if_neg (by omega), if_neg (by omega), if_neg (by omega), if_pos (by omega), show 10 + q - 10 = q by omega]
    have ea : va_up (acR adr S x q) ac (some r) = acR adr (sp_act2 S (4 * x + q) ac x2 x3 x4 x5) x q := by
      funext i
      unfold acR va_up
      rw [act2_10, hac, nI_clamp (by omega), nI_clamp (by omega)]
      by_cases c : i = ac
      · rw [if_pos c, if_pos (by omega), c, hr]
      · rw [if_neg c]
        dsimp only
        by_cases d : i < ac
        · rw [if_pos d, if_pos (by omega)]
        · rw [if_neg d, if_neg (by omega)]
    rw [ea]
  have st : ∀ f g, va_up (va_up (bC (nk x (14 + 10 * q + ac)) 1 [(0, .inr (0, [.int x2, .ref (adr (nk z 0)), .int x3, .int x4, .int x5, .int lg]))] (ccel G adr n S Y L)) (nk x (10 + q)) f) (nk x (6 + q)) g a = bC (nk x (14 + 10 * q + ac)) 1 [(0, .inr (0, [.int x2, .ref (adr (nk z 0)), .int x3, .int x4, .int x5, .int lg]))] (ccel G adr n S Y L) a := fun f g => by simp only [va_up, if_neg a1, if_neg a2]
  rw [st]
  by_cases a3 : a = nk x (14 + 10 * q + ac)
  · subst a3
    rw [show bC (nk x (14 + 10 * q + ac)) 1 [(0, .inr (0, [.int x2, .ref (adr (nk z 0)), .int x3, .int x4, .int x5, .int lg]))] (ccel G adr n S Y L) (nk x (14 + 10 * q + ac)) = _ from bl_at (j := 0) (by decide), ccel_k hx (by omega), kc_t hq act2_10 (by omega) (by omega)]
    simp only [afs, act2_0, act2_1, act2_2, act2_3, hz, hlg, lkf, if_true]
  refine (bl_out (by omega)).trans ?_
  match a, a1, a2, a3 with
  | 0, _, _, _ => simp only [ccel, ofs, e 0 (by decide) (by decide)]
  | 1, _, _, _ => rfl
  | 2, _, _, _ => rfl
  | 3, _, _, _ => simp only [ccel, jfs, e 13 (by decide) (by decide), e 16 (by decide) (by decide), e 17 (by decide) (by decide), e 18 (by decide) (by decide)]
  | 4, _, _, _ => simp only [ccel, e 14 (by decide) (by decide)]
  | 5, _, _, _ => simp only [ccel, e 15 (by decide) (by decide)]
  | 6, _, _, _ => rfl
  | 7, _, _, _ => rfl
  | b + 8, a1, a2, a3 =>
    simp only [ccel]
    by_cases hb : b / 60 < n
    · rw [if_pos hb, if_pos hb, kcel_act hq hac h10 (by
        rintro ⟨q1, q2⟩
        rcases q2 with q2 | q2 | q2
        · exact a1 (by show b + 8 = 8 + 60 * x + (6 + q); omega)
        · exact a2 (by show b + 8 = 8 + 60 * x + (10 + q); omega)
        · exact a3 (by show b + 8 = 8 + 60 * x + (14 + 10 * q + ac); omega))]
    · rw [if_neg hb, if_neg hb]
