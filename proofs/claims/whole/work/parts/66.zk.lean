/-! what lies beyond n stays as it is in a run -/
def zo (n k j : Nat) : Prop := ((k = 4 ∨ k = 8 ∨ k = 12) ∧ n ≤ j) ∨ ((k = 6 ∨ k = 7 ∨ k = 10) ∧ 4 * n ≤ j) ∨ (k = 9 ∧ 20 * n ≤ j)
def zk (n : Nat) (S S2 : Nat → Nat → Int32) : Prop := ∀ k j, zo n k j → S2 k j = S k j
theorem zI_of {n : Nat} {S : Nat → Nat → Int32} (h : ∀ k j, zo n k j → S k j = 0) : zI n S :=
  ⟨fun x hx => ⟨h 4 x (by unfold zo; omega), h 8 x (by unfold zo; omega), h 12 x (by unfold zo; omega)⟩, fun j hj => ⟨h 6 j (by unfold zo; omega), h 7 j (by unfold zo; omega), h 10 j (by unfold zo; omega)⟩, fun j hj => h 9 j (by unfold zo; omega)⟩
theorem zI.at {n : Nat} {S : Nat → Nat → Int32} (h : zI n S) : ∀ k j, zo n k j → S k j = 0 := by
  intro k j hz
  rcases hz with ⟨hk, hj⟩ | ⟨hk, hj⟩ | ⟨hk, hj⟩
  · rcases hk with rfl | rfl | rfl
    · exact (h.1 j hj).1
    · exact (h.1 j hj).2.1
    · exact (h.1 j hj).2.2
  · rcases hk with rfl | rfl | rfl
    · exact (h.2.1 j hj).1
    · exact (h.2.1 j hj).2.1
    · exact (h.2.1 j hj).2.2
  · subst hk; exact h.2.2 j hj
theorem zI.to {n : Nat} {S S2 : Nat → Nat → Int32} (h : zI n S) (hk : zk n S S2) : zI n S2 := zI_of (fun k j hz => (hk k j hz).trans (h.at k j hz))
theorem zk.rf {n : Nat} {S : Nat → Nat → Int32} : zk n S S := fun _ _ _ => rfl
theorem zk.tr {n : Nat} {S S2 S3 : Nat → Nat → Int32} (h1 : zk n S S2) (h2 : zk n S2 S3) : zk n S S3 := fun k j hz => (h2 k j hz).trans (h1 k j hz)
theorem zk_m2 {n k i : Nat} {S : Nat → Nat → Int32} {v : Int32} (h : ¬ zo n k i) : zk n S (m2 S k i v) := by
  intro a j hz
  rw [m2e, if_neg]
  rintro ⟨rfl, rfl⟩
  exact h hz
theorem tell_zk {n e : Nat} {S : Nat → Nat → Int32} {so v : Int32} : zk n S (sp_tell S e so v) := by
  unfold sp_tell
  split
  · exact ((zk_m2 (by unfold zo; omega)).tr (zk_m2 (by unfold zo; omega))).tr (zk_m2 (by unfold zo; omega))
  · exact zk.rf
theorem ar_zk {n : Nat} {S : Nat → Nat → Int32} {w : Int32} : zk n S (sp_ar S w) := zk_m2 (by unfold zo; omega)
theorem st_zk {n x : Nat} {S : Nat → Nat → Int32} {v : Int32} (h : x < n) : zk n S (m2 S 12 x v) := zk_m2 (by unfold zo; omega)
theorem set_zk {n x f : Nat} {S : Nat → Nat → Int32} {v : Int32} (h : x < n) (hf : f < 4) : zk n S (sp_set S x f v) := by
  unfold sp_set
  split
  · exact zk_m2 (by unfold zo; omega)
  · exact zk.rf
theorem half_zk {n x z g : Nat} {S : Nat → Nat → Int32} : zk n S (sp_half S x z g) := by
  unfold sp_half
  exact zk_m2 (by unfold zo; omega)
theorem zero_zk {n x : Nat} {S : Nat → Nat → Int32} (h : x < n) : ∀ k, k ≤ 20 → zk n S (sp_zero S x k) := by
  intro k
  induction k with
  | zero => intro _; exact zk.rf
  | succ k ih => intro hk; exact (ih (by omega)).tr (zk_m2 (by unfold zo; omega))
theorem row_ix {r : Nat} {v a : Int32} (hr : r ≤ 21) (ha : a = nI r) (h0 : ¬ v < 0) (h1 : ¬ a - nI 1 ≤ v) : v.toNatClampNeg < 20 := by
  subst ha
  rcases pk_ix v (n := 20) (by decide) with q | q | ⟨j, q1, q2⟩
  · exact absurd q h0
  · exfalso
    apply h1
    rcases r with _ | r
    · rw [Int32.le_iff_toInt_le] at q ⊢
      have e1 : (nI 0 - nI 1).toInt = -1 := by decide
      have e2 : (nI 20).toInt = 20 := by decide
      omega
    · have e : nI (r + 1) - nI 1 = nI r := by
        rw [← nI_add]
        exact Int32.add_sub_cancel _ _
      rw [e]
      rw [Int32.le_iff_toInt_le] at q ⊢
      have e1 : (nI r).toInt = r := nI_toInt (by omega)
      have e2 : (nI 20).toInt = 20 := by decide
      omega
  · rw [q2, nI_clamp (by omega)]; exact q1
theorem doS_zk {n x so e : Nat} {S : Nat → Nat → Int32} {ra rb rc : Int32} (hd : dI n S) (hn : n ≤ 12) (hx : x < n) (hv : ¬ sp_areIn so ra rb rc = 0) (h13 : 1 ≤ so ∧ so ≤ 3 → ∃ z, z < n ∧ rb = nI z) : zk n S (sp_doS S e x so ra rb rc) := by
  have h8 := hd.2.2.1 x (by omega)
  obtain ⟨r, hr, h8⟩ := h8
  have hf : so ≤ 6 → ra.toNatClampNeg < 4 := fun h => by
    obtain ⟨f, h1, h2⟩ := are_f1 hv h
    rw [h2, nI_clamp (by omega)]; exact h1
  unfold sp_doS
  split
  · exact set_zk hx (hf (by omega))
  · exact half_zk.tr (set_zk hx (hf (by omega)))
  · obtain ⟨z, hz, hze⟩ := h13 (by omega)
    obtain ⟨g, hg, hge⟩ := are_f3 hv (by omega) (by omega)
    refine set_zk ?_ ?_
    · rw [hze, nI_clamp (by omega)]; exact hz
    · rw [hge, nI_clamp (by omega)]; exact hg
  · unfold sp_divS
    split
    · exact half_zk.tr ar_zk
    · exact half_zk.tr (set_zk hx (hf (by omega)))
  · unfold sp_rowS
    split
    · exact ar_zk
    · rename_i hv
      exact (zk_m2 (by unfold zo; omega)).tr (zero_zk hx _ (rowN_le hv))
  · unfold sp_inS
    split
    · exact ar_zk
    · split
      · exact ar_zk
      · split
        · exact ar_zk
        · rename_i q1 q2
          have := row_ix hr h8 q1 q2
          exact zk_m2 (by unfold zo; omega)
  · unfold sp_outS
    split
    · exact ar_zk
    · split
      · exact ar_zk
      · split
        · exact ar_zk
        · exact set_zk hx (hf (by omega))
  · exact zk.rf
  · exact ar_zk
  · exact tell_zk
  · exact zk_m2 (by unfold zo; omega)
def goodz (n : Nat) (S : Nat → Nat → Int32) (r : Int32 × cST) : Prop := sta S r.2.1 ∧ zk n S r.2.1 ∧ dI n r.2.1 ∧ thr r.1
theorem goodz.tr {n : Nat} {S : Nat → Nat → Int32} {r r2 : Int32 × cST} (h : goodz n S r) (h2 : goodz n r.2.1 r2) : goodz n S r2 := ⟨h.1.tr h2.1, h.2.1.tr h2.2.1, h2.2.2⟩
theorem goodz.pre {n : Nat} {S S2 : Nat → Nat → Int32} {r2 : Int32 × cST} (h1 : sta S S2) (hm : zk n S S2) (h2 : goodz n S2 r2) : goodz n S r2 := ⟨h1.tr h2.1, hm.tr h2.2.1, h2.2.2⟩
theorem goodz_rf {n : Nat} {w : Int32} {st : cST} (hd : dI n st.1) (hw : thr w) : goodz n st.1 (w, st) := ⟨sta.rf, zk.rf, hd, hw⟩
def okZ (n : Nat) (E : cEV) : Prop := ∀ (tag x q i d : Nat) (st : cST), sI n st.1 → dI n st.1 → x < n → q < 4 → (tag = 4 ∨ tag = 5 → i < (st.1 10 (4 * x + q)).toNatClampNeg) → goodz n st.1 (E tag x q i d st)
theorem lkL_zk {n : Nat} {E : cEV} (hE : okZ n E) {x d lv : Nat} (hx : x < n) : ∀ (r i : Nat) (w : Int32) (st : cST), sI n st.1 → dI n st.1 → i + r = (st.1 4 x).toNatClampNeg → thr w → goodz n st.1 (lkL E x d lv r i w st) := by
  intro r
  induction r with
  | zero => intro i w st hs hd _ hw; exact goodz_rf hd hw
  | succ r ih =>
    intro i w st hs hd hi hw
    obtain ⟨hy, hye⟩ := sI_face hs hx (show i < (st.1 4 x).toNatClampNeg by omega)
    rw [lkL]
    by_cases c1 : ¬ w = -1
    · rw [if_pos c1]; exact goodz_rf hd hw
    rw [if_neg c1]
    by_cases c2 : lv = 0
    · rw [if_pos c2]; exact goodz_rf hd hw
    rw [if_neg c2]
    have g1 := hE 2 (st.1 5 (3 * x + i)).toNatClampNeg 0 (lv - 1) d st hs hd (by omega) (by omega) (fun h => by omega)
    generalize E 2 (st.1 5 (3 * x + i)).toNatClampNeg 0 (lv - 1) d st = r1 at g1 ⊢
    have e4 : r1.2.1 4 = st.1 4 := g1.1 4 (by omega)
    have hs1 := hs.to g1.1
    have nx : ∀ r2 : Int32 × cST, goodz n r1.2.1 r2 → goodz n st.1 (lkL E x d lv r (i + 1) r2.1 r2.2) := fun r2 g2 =>
      g1.tr (g2.tr (ih (i + 1) r2.1 r2.2 (hs1.to g2.1) g2.2.2.1 (by rw [g2.1 4 (by omega), e4]; omega) g2.2.2.2))
    have nx1 : goodz n st.1 (lkL E x d lv r (i + 1) r1.1 r1.2) := nx r1 ⟨sta.rf, zk.rf, g1.2.2.1, g1.2.2.2⟩
    by_cases c3 : ¬ r1.1 = -1
    · rw [if_pos c3]; exact nx1
    rw [if_neg c3]
    by_cases c4 : st.1 2 (st.1 5 (3 * x + i)).toNatClampNeg = 0
    · rw [if_pos c4]; exact nx1
    rw [if_neg c4]
    exact nx _ (hE 0 (st.1 5 (3 * x + i)).toNatClampNeg 0 0 d r1.2 hs1 g1.2.2.1 (by omega) (by omega) (fun h => by omega))
theorem wkL_zk {n : Nat} {E : cEV} (hE : okZ n E) {x q d : Nat} (hx : x < n) (hq : q < 4) : ∀ (r i nx : Nat) (st : cST), sI n st.1 → dI n st.1 → i + r = (st.1 10 (4 * x + q)).toNatClampNeg → goodz n st.1 (wkL E x q d r i nx st) := by
  intro r
  induction r with
  | zero => intro i nx st hs hd _; exact goodz_rf hd thr_m
  | succ r ih =>
    intro i nx st hs hd hi
    rw [wkL]
    by_cases c1 : i < nx
    · rw [if_pos c1]; exact ih (i + 1) nx st hs hd (by omega)
    rw [if_neg c1]
    have g1 := hE 4 x q i (d + 1) st hs hd hx hq (fun _ => by omega)
    generalize E 4 x q i (d + 1) st = r1 at g1 ⊢
    have e10 : r1.2.1 10 = st.1 10 := g1.1 10 (by omega)
    have nxt : ∀ m : Nat, goodz n st.1 (wkL E x q d r (i + 1) m r1.2) := fun m => g1.tr (ih (i + 1) m r1.2 (hs.to g1.1) g1.2.2.1 (by rw [e10]; omega))
    by_cases c2 : r1.1 = -1
    · rw [if_pos c2]; exact nxt nx
    rw [if_neg c2]
    by_cases c3 : eoc (st.1 11) (4 * x + q) i r1.1 i = -1
    · rw [if_pos c3]; exact g1
    rw [if_neg c3]
    exact nxt _
theorem wtE_zk {n x : Nat} {r : Int32 × cST} (hx : x < n) (hd : dI n r.2.1) (hw : thr r.1) : goodz n r.2.1 (wtE x r) := by
  unfold wtE
  have hc : ∀ t, cev (m2 r.2.1 12 x (nI t)) = cev r.2.1 := fun t => st_cev
  have key : ∀ t so, 1 ≤ t → t ≤ 3 → sta r.2.1 (sp_tell (m2 r.2.1 12 x (nI t)) (cev r.2.1) so (nI x)) ∧ zk n r.2.1 (sp_tell (m2 r.2.1 12 x (nI t)) (cev r.2.1) so (nI x)) ∧ dI n (sp_tell (m2 r.2.1 12 x (nI t)) (cev r.2.1) so (nI x)) := by
    intro t so h1 h3
    refine ⟨st_sta.tr tell_sta, (st_zk hx).tr tell_zk, ?_⟩
    rw [← hc t]
    exact tell_dI (st_dI hd h3)
  by_cases c1 : r.1 = -1
  · rw [if_pos c1]
    obtain ⟨a, b, c⟩ := key 2 (nI 1) (by decide) (by decide)
    exact ⟨a, b, c, thr_m⟩
  rw [if_neg c1]
  obtain ⟨a, b, c⟩ := key 3 (nI 2) (by decide) (by decide)
  by_cases c2 : r.1 < nI 7
  · rw [if_pos c2]
    exact ⟨a.tr ar_sta, b.tr ar_zk, ar_dI c, thr_n (by decide)⟩
  · rw [if_neg c2]
    exact ⟨a, b, c, hw⟩
theorem evF_zk {n : Nat} {E : cEV} (hE : okZ n E) : okZ n (evF E) := by
  intro tag x q i d st hs hd hx hq hi
  have hn := hs.1
  match tag, hi with
  | 0, _ =>
    simp only [evF]
    by_cases c1 : st.1 12 x = nI 3
    · rw [if_pos c1]
      exact ⟨ar_sta, ar_zk, ar_dI hd, thr_n (by decide)⟩
    rw [if_neg c1]
    by_cases c2 : st.1 12 x = 0
    · rw [if_pos c2]
      have hs0 : sta st.1 (wt0 st.1 x) := st_sta.tr tell_sta
      have hm0 : zk n st.1 (wt0 st.1 x) := (st_zk hx).tr tell_zk
      have hd0 : dI n (wt0 st.1 x) := by
        unfold wt0
        rw [← st_cev (x := x) (v := nI 1)]
        exact tell_dI (st_dI hd (by decide))
      have g1 := hE 1 x 0 0 d (wt0 st.1 x, st.2) (hs.to hs0) hd0 hx (by omega) (fun h => by omega)
      exact goodz.pre hs0 hm0 (g1.tr (wtE_zk hx g1.2.2.1 g1.2.2.2))
    · rw [if_neg c2]
      exact goodz_rf hd thr_m
  | 1, _ =>
    simp only [evF]
    have g1 : goodz n st.1 (stP E x d st) := by
      unfold stP
      by_cases c : st.1 3 x = -1
      · rw [if_pos c]; exact goodz_rf hd thr_m
      · rw [if_neg c]; exact hE 0 _ 0 0 d st hs hd (by have := (sI_par hs hx c).1; omega) (by omega) (fun h => by omega)
    generalize stP E x d st = r1 at g1 ⊢
    have hs1 := hs.to g1.1
    have g2 : goodz n st.1 (stL E x d r1) := by
      unfold stL
      by_cases c : ¬ r1.1 = -1
      · rw [if_pos c]; exact g1
      rw [if_neg c]
      split
      · exact g1.tr (hE 2 x 0 12 d r1.2 hs1 g1.2.2.1 hx (by omega) (fun h => by omega))
      · exact g1
    generalize stL E x d r1 = r2 at g2 ⊢
    have hs2 := hs.to g2.1
    unfold stW
    by_cases c : ¬ r2.1 = -1
    · rw [if_pos c]; exact g2
    rw [if_neg c]
    split
    · exact g2.tr (hE 3 x 0 0 d r2.2 hs2 g2.2.2.1 hx (by omega) (fun h => by omega))
    · exact g2.tr ⟨ar_sta, ar_zk, ar_dI g2.2.2.1, thr_n (by decide)⟩
  | 2, _ =>
    simp only [evF]
    exact lkL_zk hE hx _ 0 (-1) st hs hd (by omega) thr_m
  | 3, _ =>
    simp only [evF]
    exact wkL_zk hE hx hq _ 0 0 st hs hd (by omega)
  | 4, hi =>
    simp only [evF]
    have hi2 := hi (Or.inl rfl)
    by_cases c1 : nI 80 ≤ st.1 17 0
    · rw [if_pos c1]; exact goodz_rf hd (thr_n (by decide))
    rw [if_neg c1]
    have hb := bgS_dI hd c1
    have hmb : zk n st.1 (bgS st.1) := zk_m2 (by unfold zo; omega)
    have g1 : goodz n st.1 (if evW st.1 x q i = -1 then (-1, (bgS st.1, st.2)) else E 0 (evW st.1 x q i).toNatClampNeg 0 0 d (bgS st.1, st.2)) := by
      by_cases c : evW st.1 x q i = -1
      · rw [if_pos c]; exact ⟨bgS_sta, hmb, hb, thr_m⟩
      · rw [if_neg c]
        exact goodz.pre bgS_sta hmb (hE 0 _ 0 0 d (bgS st.1, st.2) (hs.to bgS_sta) hb (evW_z (sI_act hs hx hq hi2) hn c).1 (by omega) (fun h => by omega))
    generalize (if evW st.1 x q i = -1 then (-1, (bgS st.1, st.2)) else E 0 (evW st.1 x q i).toNatClampNeg 0 0 d (bgS st.1, st.2)) = r1 at g1 ⊢
    unfold bgN
    by_cases c : ¬ r1.1 = -1
    · rw [if_pos c]; exact g1
    rw [if_neg c]
    exact g1.tr (hE 5 x q i d r1.2 (hs.to g1.1) g1.2.2.1 hx hq (fun _ => by rw [g1.1 10 (by omega)]; exact hi2))
  | 5, hi =>
    simp only [evF]
    have hi2 := hi (Or.inr rfl)
    obtain ⟨so, hso, h0, hv, h13, h78⟩ := sI_act hs hx hq hi2
    have e0 : (st.1 11 (aT x q i)).toNatClampNeg = so := by rw [h0, nI_clamp (by omega)]
    rw [e0]
    by_cases c7 : so = 7
    · rw [if_pos c7]
      obtain ⟨z, hz, hze⟩ := h78 (Or.inl c7)
      subst c7
      have hg : (st.1 11 (aT x q i + 2)).toNatClampNeg < 4 := by
        simp only [sp_areIn] at hv
        by_cases q1 : st.1 11 (aT x q i + 2) < nI 1
        · rw [if_pos q1] at hv; exact absurd rfl hv
        · rw [if_neg q1] at hv
          by_cases q2 : nI 3 < st.1 11 (aT x q i + 2)
          · rw [if_pos q2] at hv; exact absurd rfl hv
          · obtain ⟨g, h1, h3, he⟩ := ix_in (by decide) (by decide) q1 q2
            rw [he, nI_clamp (by omega)]
            omega
      exact hE 6 _ _ 0 d st hs hd (by rw [hze, nI_clamp (by omega)]; exact hz) hg (fun h => by omega)
    rw [if_neg c7]
    by_cases c11 : so = 11
    · rw [if_pos c11]; exact goodz_rf hd thr_m
    rw [if_neg c11]
    exact ⟨doS_sta, doS_zk hd hn hx hv h13, doS_dI hd, doR_thr hv⟩
  | t + 6, _ =>
    simp only [evF]
    by_cases c : d < 8
    · rw [if_pos c]
      exact goodz.pre tell_sta tell_zk (hE 3 x q 0 d (sp_tell st.1 (cev st.1) (nI 4) (nI (10 * x + q)), st.2) (hs.to tell_sta) (tell_dI hd) hx hq (fun h => by omega))
    · rw [if_neg c]
      exact ⟨ar_sta, ar_zk, ar_dI hd, thr_n (by decide)⟩
theorem ev_zk (n k : Nat) : okZ n (ev k) := by
  induction k with
  | zero => intro tag x q i d st hs hd hx hq hi; exact goodz_rf hd thr_m
  | succ k ih => exact evF_zk ih

theorem run_zk {n : Nat} {S : Nat → Nat → Int32} : zk n S (rf_runS S) := by
  unfold rf_runS
  exact (((zk_m2 (by unfold zo; omega)).tr (zk_m2 (by unfold zo; omega))).tr (zk_m2 (by unfold zo; omega))).tr (zk_m2 (by unfold zo; omega))
theorem ex2_zk {n x q : Nat} {S Y : Nat → Nat → Int32} (hs : sI n S) (hd : dI n S) (hxn : x < n) (hq3 : q ≤ 3) : zk n S (ex2 S Y x q).2.1 := by
  have hs0 := hs.to run_sta
  have hd0 := run_dI hd
  have g1 := ev_zk n 530 0 x 0 0 0 (rf_runS S, exY Y) hs0 hd0 hxn (by omega) (fun h => by omega)
  unfold ex2 ex1
  generalize ev 530 0 x 0 0 0 (rf_runS S, exY Y) = r1 at g1 ⊢
  split
  · exact run_zk.tr (g1.2.1.tr (ev_zk n 530 3 x q 0 0 r1.2 (hs0.to g1.1) g1.2.2.1 hxn (by omega) (fun h => by omega)).2.1)
  · exact run_zk.tr g1.2.1
