theorem ar_mon {n : Nat} {S : Nat → Nat → Int32} {w : Int32} : mon n S (sp_ar S w) := eq12_mon (sp_ar_ne (show 12 ≠ 18 by decide))
/-- what is asked of E to be good -/
def okE (n : Nat) (E : cEV) : Prop := ∀ (tag x q i d : Nat) (st : cST), sI n st.1 → dI n st.1 → x < n → q < 4 → (tag = 4 ∨ tag = 5 → i < (st.1 10 (4 * x + q)).toNatClampNeg) → good n st.1 (E tag x q i d st)
theorem good_rf {n : Nat} {w : Int32} {st : cST} (hd : dI n st.1) (hw : thr w) : good n st.1 (w, st) := ⟨sta.rf, mon.rf, hd, hw⟩
theorem sI_face {n : Nat} {S : Nat → Nat → Int32} (h : sI n S) {x i : Nat} (hx : x < n) (hi : i < (S 4 x).toNatClampNeg) : (S 5 (3 * x + i)).toNatClampNeg < x ∧ S 5 (3 * x + i) = nI (S 5 (3 * x + i)).toNatClampNeg := by
  obtain ⟨y, hy, he, -⟩ := h.2.2.2.1 x i hx hi
  have h12 := h.1
  rw [he, nI_clamp (by omega)]
  exact ⟨hy, rfl⟩
theorem sI_par {n : Nat} {S : Nat → Nat → Int32} (h : sI n S) {x : Nat} (hx : x < n) (hp : ¬ S 3 x = -1) : (S 3 x).toNatClampNeg < x ∧ S 3 x = nI (S 3 x).toNatClampNeg := by
  rcases h.2.2.2.2.1 x hx with q | ⟨y, hy, he⟩
  · exact absurd q hp
  · have h12 := h.1
    rw [he, nI_clamp (by omega)]
    exact ⟨hy, rfl⟩
theorem sI_ac {n : Nat} {S : Nat → Nat → Int32} (h : sI n S) {mm : Nat} (hm : mm < 48) : (S 10 mm).toNatClampNeg ≤ 10 ∧ S 10 mm = nI (S 10 mm).toNatClampNeg := by
  obtain ⟨ac, h1, h2⟩ := h.2.2.2.2.2.2.1 mm hm
  rw [h2, nI_clamp (by omega)]
  exact ⟨h1, rfl⟩
theorem sI_act {n : Nat} {S : Nat → Nat → Int32} (h : sI n S) {x q i : Nat} (hx : x < n) (hq : q < 4) (hi : i < (S 10 (4 * x + q)).toNatClampNeg) : okAct S n (aT x q i) := h.2.2.2.2.2.2.2 (4 * x + q) i (by omega) hi
theorem evW_z {n : Nat} {S : Nat → Nat → Int32} {x q i : Nat} (h : okAct S n (aT x q i)) (hn : n ≤ 12) (hw : ¬ evW S x q i = -1) : (evW S x q i).toNatClampNeg < n ∧ evW S x q i = nI (evW S x q i).toNatClampNeg := by
  obtain ⟨so, hso, h0, hv, h13, h78⟩ := h
  have e0 : (S 11 (aT x q i)).toNatClampNeg = so := by rw [h0, nI_clamp (by omega)]
  have key : evW S x q i = -1 ∨ ∃ z, z < n ∧ evW S x q i = nI z := by
    unfold evW rf_wants rf_wants2
    rw [e0]
    by_cases c1 : so < 1
    · rw [if_pos c1, if_neg (by omega), if_neg (by omega)]
      exact Or.inl rfl
    · rw [if_neg c1]
      by_cases c3 : 3 < so
      · rw [if_pos c3]
        by_cases c7 : so = 7
        · rw [if_pos c7]
          exact Or.inr (h78 (Or.inl c7))
        · rw [if_neg c7]
          by_cases c8 : so = 8
          · rw [if_pos c8]
            exact Or.inr (h78 (Or.inr c8))
          · rw [if_neg c8]
            exact Or.inl rfl
      · rw [if_neg c3]
        split
        · exact Or.inr (h13 ⟨by omega, by omega⟩)
        · exact Or.inl rfl
  rcases key with q1 | ⟨z, hz, he⟩
  · exact absurd q1 hw
  · rw [he, nI_clamp (by omega)]
    exact ⟨hz, rfl⟩
theorem lkL_ok {n : Nat} {E : cEV} (hE : okE n E) {x d lv : Nat} (hx : x < n) : ∀ (r i : Nat) (w : Int32) (st : cST), sI n st.1 → dI n st.1 → i + r = (st.1 4 x).toNatClampNeg → thr w → good n st.1 (lkL E x d lv r i w st) := by
  intro r
  induction r with
  | zero => intro i w st hs hd _ hw; exact good_rf hd hw
  | succ r ih =>
    intro i w st hs hd hi hw
    obtain ⟨hy, hye⟩ := sI_face hs hx (show i < (st.1 4 x).toNatClampNeg by omega)
    rw [lkL]
    by_cases c1 : ¬ w = -1
    · rw [if_pos c1]; exact good_rf hd hw
    rw [if_neg c1]
    by_cases c2 : lv = 0
    · rw [if_pos c2]; exact good_rf hd hw
    rw [if_neg c2]
    have g1 := hE 2 (st.1 5 (3 * x + i)).toNatClampNeg 0 (lv - 1) d st hs hd (by omega) (by omega) (fun h => by omega)
    generalize E 2 (st.1 5 (3 * x + i)).toNatClampNeg 0 (lv - 1) d st = r1 at g1 ⊢
    have e4 : r1.2.1 4 = st.1 4 := g1.1 4 (by omega)
    have hs1 := hs.to g1.1
    have nx : ∀ r2 : Int32 × cST, good n r1.2.1 r2 → good n st.1 (lkL E x d lv r (i + 1) r2.1 r2.2) := fun r2 g2 =>
      g1.tr (g2.tr (ih (i + 1) r2.1 r2.2 (hs1.to g2.1) g2.2.2.1 (by rw [g2.1 4 (by omega), e4]; omega) g2.2.2.2))
    have nx1 : good n st.1 (lkL E x d lv r (i + 1) r1.1 r1.2) := nx r1 ⟨sta.rf, mon.rf, g1.2.2.1, g1.2.2.2⟩
    by_cases c3 : ¬ r1.1 = -1
    · rw [if_pos c3]; exact nx1
    rw [if_neg c3]
    by_cases c4 : st.1 2 (st.1 5 (3 * x + i)).toNatClampNeg = 0
    · rw [if_pos c4]; exact nx1
    rw [if_neg c4]
    exact nx _ (hE 0 (st.1 5 (3 * x + i)).toNatClampNeg 0 0 d r1.2 hs1 g1.2.2.1 (by omega) (by omega) (fun h => by omega))
theorem wkL_ok {n : Nat} {E : cEV} (hE : okE n E) {x q d : Nat} (hx : x < n) (hq : q < 4) : ∀ (r i nx : Nat) (st : cST), sI n st.1 → dI n st.1 → i + r = (st.1 10 (4 * x + q)).toNatClampNeg → good n st.1 (wkL E x q d r i nx st) := by
  intro r
  induction r with
  | zero => intro i nx st hs hd _; exact good_rf hd thr_m
  | succ r ih =>
    intro i nx st hs hd hi
    rw [wkL]
    by_cases c1 : i < nx
    · rw [if_pos c1]; exact ih (i + 1) nx st hs hd (by omega)
    rw [if_neg c1]
    have g1 := hE 4 x q i (d + 1) st hs hd hx hq (fun _ => by omega)
    generalize E 4 x q i (d + 1) st = r1 at g1 ⊢
    have e10 : r1.2.1 10 = st.1 10 := g1.1 10 (by omega)
    have nxt : ∀ m : Nat, good n st.1 (wkL E x q d r (i + 1) m r1.2) := fun m => g1.tr (ih (i + 1) m r1.2 (hs.to g1.1) g1.2.2.1 (by rw [e10]; omega))
    by_cases c2 : r1.1 = -1
    · rw [if_pos c2]; exact nxt nx
    rw [if_neg c2]
    by_cases c3 : eoc (st.1 11) (4 * x + q) i r1.1 i = -1
    · rw [if_pos c3]; exact g1
    rw [if_neg c3]
    exact nxt _
theorem wtE_ok {n x : Nat} {r : Int32 × cST} (hd : dI n r.2.1) (hw : thr r.1) : good n r.2.1 (wtE x r) := by
  unfold wtE
  have hc : ∀ t, cev (m2 r.2.1 12 x (nI t)) = cev r.2.1 := fun t => st_cev
  have key : ∀ t so, 1 ≤ t → t ≤ 3 → sta r.2.1 (sp_tell (m2 r.2.1 12 x (nI t)) (cev r.2.1) so (nI x)) ∧ mon n r.2.1 (sp_tell (m2 r.2.1 12 x (nI t)) (cev r.2.1) so (nI x)) ∧ dI n (sp_tell (m2 r.2.1 12 x (nI t)) (cev r.2.1) so (nI x)) := by
    intro t so h1 h3
    refine ⟨st_sta.tr tell_sta, (st_mon h1 h3).tr (eq12_mon (sp_tell_ne (by decide) (by decide) (by decide))), ?_⟩
    rw [← hc t]
    exact tell_dI (st_dI hd h3)
  by_cases c1 : r.1 = -1
  · rw [if_pos c1]
    obtain ⟨a, b, c⟩ := key 2 (nI 1) (by decide) (by decide)
    exact ⟨a, b, c, thr_m⟩
  rw [if_neg c1]
  obtain ⟨a, b, c⟩ := key 3 (nI 2) (by decide) (by decide)
  by_cases c2 : r.1 < nI 7
  · rw [if_pos c2]
    exact ⟨a.tr ar_sta, b.tr ar_mon, ar_dI c, thr_n (by decide)⟩
  · rw [if_neg c2]
    exact ⟨a, b, c, hw⟩
theorem evF_ok {n : Nat} {E : cEV} (hE : okE n E) : okE n (evF E) := by
  intro tag x q i d st hs hd hx hq hi
  have hn := hs.1
  match tag, hi with
  | 0, _ =>
    simp only [evF]
    by_cases c1 : st.1 12 x = nI 3
    · rw [if_pos c1]
      exact ⟨ar_sta, ar_mon, ar_dI hd, thr_n (by decide)⟩
    rw [if_neg c1]
    by_cases c2 : st.1 12 x = 0
    · rw [if_pos c2]
      have hs0 : sta st.1 (wt0 st.1 x) := st_sta.tr tell_sta
      have hm0 : mon n st.1 (wt0 st.1 x) := (st_mon (t := 1) (by decide) (by decide)).tr (eq12_mon (sp_tell_ne (by decide) (by decide) (by decide)))
      have hd0 : dI n (wt0 st.1 x) := by
        unfold wt0
        rw [← st_cev (x := x) (v := nI 1)]
        exact tell_dI (st_dI hd (by decide))
      have g1 := hE 1 x 0 0 d (wt0 st.1 x, st.2) (hs.to hs0) hd0 hx (by omega) (fun h => by omega)
      exact good.pre hs0 hm0 (g1.tr (wtE_ok g1.2.2.1 g1.2.2.2))
    · rw [if_neg c2]
      exact good_rf hd thr_m
  | 1, _ =>
    simp only [evF]
    have g1 : good n st.1 (stP E x d st) := by
      unfold stP
      by_cases c : st.1 3 x = -1
      · rw [if_pos c]; exact good_rf hd thr_m
      · rw [if_neg c]; exact hE 0 _ 0 0 d st hs hd (by have := (sI_par hs hx c).1; omega) (by omega) (fun h => by omega)
    generalize stP E x d st = r1 at g1 ⊢
    have hs1 := hs.to g1.1
    have g2 : good n st.1 (stL E x d r1) := by
      unfold stL
      by_cases c : ¬ r1.1 = -1
      · rw [if_pos c]; exact g1
      rw [if_neg c]
      split
      · exact g1.tr (hE 2 x 0 12 d r1.2 hs1 g1.2.2.1 hx (by omega) (fun h => by omega))
      · exact g1
    generalize stL E x d r1 = r2 at g2 ⊢
    have hs2 := hs.to g2.1
    unfold stW
    by_cases c : ¬ r2.1 = -1
    · rw [if_pos c]; exact g2
    rw [if_neg c]
    split
    · exact g2.tr (hE 3 x 0 0 d r2.2 hs2 g2.2.2.1 hx (by omega) (fun h => by omega))
    · exact g2.tr ⟨ar_sta, ar_mon, ar_dI g2.2.2.1, thr_n (by decide)⟩
  | 2, _ =>
    simp only [evF]
    exact lkL_ok hE hx _ 0 (-1) st hs hd (by omega) thr_m
  | 3, _ =>
    simp only [evF]
    exact wkL_ok hE hx hq _ 0 0 st hs hd (by omega)
  | 4, hi =>
    simp only [evF]
    have hi2 := hi (Or.inl rfl)
    by_cases c1 : nI 80 ≤ st.1 17 0
    · rw [if_pos c1]; exact good_rf hd (thr_n (by decide))
    rw [if_neg c1]
    have hb := bgS_dI hd c1
    have hmb : mon n st.1 (bgS st.1) := eq12_mon (m2_ne (by decide))
    have g1 : good n st.1 (if evW st.1 x q i = -1 then (-1, (bgS st.1, st.2)) else E 0 (evW st.1 x q i).toNatClampNeg 0 0 d (bgS st.1, st.2)) := by
      by_cases c : evW st.1 x q i = -1
      · rw [if_pos c]; exact ⟨bgS_sta, hmb, hb, thr_m⟩
      · rw [if_neg c]
        exact good.pre bgS_sta hmb (hE 0 _ 0 0 d (bgS st.1, st.2) (hs.to bgS_sta) hb (evW_z (sI_act hs hx hq hi2) hn c).1 (by omega) (fun h => by omega))
    generalize (if evW st.1 x q i = -1 then (-1, (bgS st.1, st.2)) else E 0 (evW st.1 x q i).toNatClampNeg 0 0 d (bgS st.1, st.2)) = r1 at g1 ⊢
    unfold bgN
    by_cases c : ¬ r1.1 = -1
    · rw [if_pos c]; exact g1
    rw [if_neg c]
    exact g1.tr (hE 5 x q i d r1.2 (hs.to g1.1) g1.2.2.1 hx hq (fun _ => by rw [g1.1 10 (by omega)]; exact hi2))
  | 5, hi =>
    simp only [evF]
    have hi2 := hi (Or.inr rfl)
    obtain ⟨so, hso, h0, hv, h13, h78⟩ := sI_act hs hx hq hi2
    have e0 : (st.1 11 (aT x q i)).toNatClampNeg = so := by rw [h0, nI_clamp (by omega)]
    rw [e0]
    by_cases c7 : so = 7
    · rw [if_pos c7]
      obtain ⟨z, hz, hze⟩ := h78 (Or.inl c7)
      subst c7
      have hg : (st.1 11 (aT x q i + 2)).toNatClampNeg < 4 := by
        simp only [sp_areIn] at hv
        by_cases q1 : st.1 11 (aT x q i + 2) < nI 1
        · rw [if_pos q1] at hv; exact absurd rfl hv
        · rw [if_neg q1] at hv
          by_cases q2 : nI 3 < st.1 11 (aT x q i + 2)
          · rw [if_pos q2] at hv; exact absurd rfl hv
          · obtain ⟨g, h1, h3, he⟩ := ix_in (by decide) (by decide) q1 q2
            rw [he, nI_clamp (by omega)]
            omega
      exact hE 6 _ _ 0 d st hs hd (by rw [hze, nI_clamp (by omega)]; exact hz) hg (fun h => by omega)
    rw [if_neg c7]
    by_cases c11 : so = 11
    · rw [if_pos c11]; exact good_rf hd thr_m
    rw [if_neg c11]
    exact ⟨doS_sta, eq12_mon doS_12, doS_dI hd, doR_thr hv⟩
  | t + 6, _ =>
    simp only [evF]
    by_cases c : d < 8
    · rw [if_pos c]
      exact good.pre tell_sta (eq12_mon (sp_tell_ne (by decide) (by decide) (by decide))) (hE 3 x q 0 d (sp_tell st.1 (cev st.1) (nI 4) (nI (10 * x + q)), st.2) (hs.to tell_sta) (tell_dI hd) hx hq (fun h => by omega))
    · rw [if_neg c]
      exact ⟨ar_sta, ar_mon, ar_dI hd, thr_n (by decide)⟩
theorem ev_ok (n k : Nat) : okE n (ev k) := by
  induction k with
  | zero => intro tag x q i d st hs hd hx hq hi; exact good_rf hd thr_m
  | succ k ih => exact evF_ok ih
