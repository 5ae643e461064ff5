/-! what stays in a run of the class's machine -/
def good (n : Nat) (S : Nat → Nat → Int32) (r : Int32 × cST) : Prop := sta S r.2.1 ∧ mon n S r.2.1 ∧ dI n r.2.1 ∧ thr r.1
theorem dI.mk2 {n : Nat} {S S2 : Nat → Nat → Int32} (h : dI n S) (h13 : ∃ e, e ≤ 60 ∧ S2 13 0 = nI e) (h17 : S2 17 = S 17) (h8 : ∀ x, x < 12 → ∃ r, r ≤ 21 ∧ S2 8 x = nI r) (h12 : S2 12 = S 12) : dI n S2 :=
  ⟨h13, by rw [h17]; exact h.2.1, h8, by rw [h12]; exact h.2.2.2⟩
theorem cev_eq {S : Nat → Nat → Int32} {e : Nat} (h : S 13 0 = nI e) (he : e ≤ 60) : cev S = e := by rw [cev, h, nI_clamp (by omega)]
theorem dI.ev {n : Nat} {S : Nat → Nat → Int32} (h : dI n S) : S 13 0 = nI (cev S) ∧ cev S ≤ 60 := by
  obtain ⟨⟨e, he, h13⟩, -⟩ := h
  rw [cev_eq h13 he]
  exact ⟨h13, he⟩
theorem tell_13 {S : Nat → Nat → Int32} {e : Nat} {so v : Int32} (h : S 13 0 = nI e) (he : e ≤ 60) : ∃ k, k ≤ 60 ∧ sp_tell S e so v 13 0 = nI k := by
  unfold sp_tell
  by_cases q : e < 60
  · rw [if_pos q, m2_at]
    exact ⟨e + 1, by omega, rfl⟩
  · rw [if_neg q]
    exact ⟨e, he, h⟩
theorem tell_sta {S : Nat → Nat → Int32} {e : Nat} {so v : Int32} : sta S (sp_tell S e so v) := fun k h => sp_tell_ne (by omega) (by omega) (by omega)
theorem ar_sta {S : Nat → Nat → Int32} {w : Int32} : sta S (sp_ar S w) := fun k h => sp_ar_ne (by omega)
theorem tell_dI {n : Nat} {S : Nat → Nat → Int32} {so v : Int32} (h : dI n S) : dI n (sp_tell S (cev S) so v) :=
  h.mk2 (tell_13 h.ev.1 h.ev.2) (sp_tell_ne (by decide) (by decide) (by decide)) (fun x hx => by rw [sp_tell_ne (by decide) (by decide) (by decide)]; exact h.2.2.1 x hx) (sp_tell_ne (by decide) (by decide) (by decide))
theorem ar_dI {n : Nat} {S : Nat → Nat → Int32} {w : Int32} (h : dI n S) : dI n (sp_ar S w) :=
  h.mk2 (by rw [sp_ar_ne (by decide)]; exact h.1) (sp_ar_ne (by decide)) (fun x hx => by rw [sp_ar_ne (by decide)]; exact h.2.2.1 x hx) (sp_ar_ne (by decide))
theorem eq12_mon {n : Nat} {S S2 : Nat → Nat → Int32} (h : S2 12 = S 12) : mon n S S2 := fun x _ q => by rw [← h]; exact q
theorem st_sta {S : Nat → Nat → Int32} {x : Nat} {v : Int32} : sta S (m2 S 12 x v) := fun k h => m2_ne (by omega)
theorem st_mon {n : Nat} {S : Nat → Nat → Int32} {x t : Nat} (h : 1 ≤ t) (h3 : t ≤ 3) : mon n S (m2 S 12 x (nI t)) := by
  intro y _ q
  by_cases hy : y = x
  · subst hy
    rw [m2_at] at q
    exact absurd q (nI_ne0 h (by omega))
  · rw [m2_o hy] at q
    exact q
theorem st_dI {n : Nat} {S : Nat → Nat → Int32} {x t : Nat} (h : dI n S) (h3 : t ≤ 3) : dI n (m2 S 12 x (nI t)) := by
  refine ⟨by rw [m2_ne (by decide)]; exact h.1, by rw [m2_ne (by decide)]; exact h.2.1, fun y hy => by rw [m2_ne (by decide)]; exact h.2.2.1 y hy, fun y hy => ?_⟩
  by_cases q : y = x
  · subst q
    exact ⟨t, h3, m2_at⟩
  · rw [m2_o q]
    exact h.2.2.2 y hy
theorem st_cev {S : Nat → Nat → Int32} {x : Nat} {v : Int32} : cev (m2 S 12 x v) = cev S := by rw [cev, cev, m2_ne (by decide)]
theorem half_ne {S : Nat → Nat → Int32} {x z g a : Nat} (h : a ≠ 16) : sp_half S x z g a = S a := by
  unfold sp_half
  rw [m2_ne h]
theorem doS_ne {S : Nat → Nat → Int32} {e x so a : Nat} {ra rb rc : Int32} (h6 : a ≠ 6) (h8 : a ≠ 8) (h9 : a ≠ 9) (h13 : a ≠ 13) (h14 : a ≠ 14) (h15 : a ≠ 15) (h16 : a ≠ 16) (h18 : a ≠ 18) : sp_doS S e x so ra rb rc a = S a := by
  unfold sp_doS
  split
  · exact sp_set_ne h6
  · rw [sp_addS, sp_set_ne h6, half_ne h16]
  · rw [sp_putS, sp_set_ne h6]
  · rw [sp_divS]
    split
    · rw [sp_ar_ne h18, half_ne h16]
    · rw [sp_set_ne h6, half_ne h16]
  · rw [sp_rowS]
    split
    · exact sp_ar_ne h18
    · rw [sp_zero_ne h9, m2_ne h8]
  · rw [sp_inS]
    split
    · exact sp_ar_ne h18
    · split
      · exact sp_ar_ne h18
      · split
        · exact sp_ar_ne h18
        · exact m2_ne h9
  · rw [sp_outS]
    split
    · exact sp_ar_ne h18
    · split
      · exact sp_ar_ne h18
      · split
        · exact sp_ar_ne h18
        · exact sp_set_ne h6
  · rfl
  · exact sp_ar_ne h18
  · exact sp_tell_ne h13 h14 h15
  · exact m2_ne h8
theorem doS_13 {S : Nat → Nat → Int32} {e x so : Nat} {ra rb rc : Int32} (h : S 13 0 = nI e) (he : e ≤ 60) : ∃ k, k ≤ 60 ∧ sp_doS S e x so ra rb rc 13 0 = nI k := by
  by_cases hs : so = 10
  · subst hs
    exact tell_13 h he
  · refine ⟨e, he, ?_⟩
    rw [← h]
    unfold sp_doS
    split
    · rw [sp_set_ne (by decide)]
    · rw [sp_addS, sp_set_ne (by decide), half_ne (by decide)]
    · rw [sp_putS, sp_set_ne (by decide)]
    · rw [sp_divS]
      split
      · rw [sp_ar_ne (by decide), half_ne (by decide)]
      · rw [sp_set_ne (by decide), half_ne (by decide)]
    · rw [sp_rowS]
      split
      · rw [sp_ar_ne (by decide)]
      · rw [sp_zero_ne (by decide), m2_ne (by decide)]
    · rw [sp_inS]
      split
      · rw [sp_ar_ne (by decide)]
      · split
        · rw [sp_ar_ne (by decide)]
        · split
          · rw [sp_ar_ne (by decide)]
          · rw [m2_ne (by decide)]
    · rw [sp_outS]
      split
      · rw [sp_ar_ne (by decide)]
      · split
        · rw [sp_ar_ne (by decide)]
        · split
          · rw [sp_ar_ne (by decide)]
          · rw [sp_set_ne (by decide)]
    · rfl
    · rw [sp_ar_ne (by decide)]
    · exact absurd rfl hs
    · rw [m2_ne (by decide)]
theorem doS_8 {S : Nat → Nat → Int32} {e x so : Nat} {ra rb rc : Int32} (h : ∀ y, y < 12 → ∃ r, r ≤ 21 ∧ S 8 y = nI r) : ∀ y, y < 12 → ∃ r, r ≤ 21 ∧ sp_doS S e x so ra rb rc 8 y = nI r := by
  intro y hy
  obtain ⟨r, hr, h8⟩ := h y hy
  unfold sp_doS
  split
  · rw [sp_set_ne (by decide)]; exact ⟨r, hr, h8⟩
  · rw [sp_addS, sp_set_ne (by decide), half_ne (by decide)]; exact ⟨r, hr, h8⟩
  · rw [sp_putS, sp_set_ne (by decide)]; exact ⟨r, hr, h8⟩
  · rw [sp_divS]
    split
    · rw [sp_ar_ne (by decide), half_ne (by decide)]; exact ⟨r, hr, h8⟩
    · rw [sp_set_ne (by decide), half_ne (by decide)]; exact ⟨r, hr, h8⟩
  · rw [sp_rowS]
    split
    · rw [sp_ar_ne (by decide)]; exact ⟨r, hr, h8⟩
    · rename_i hv
      rw [sp_zero_ne (by decide)]
      by_cases hyx : y = x
      · subst hyx
        exact ⟨_, Nat.succ_le_succ (rowN_le hv), m2_at⟩
      · rw [m2_o hyx]; exact ⟨r, hr, h8⟩
  · rw [sp_inS]
    split
    · rw [sp_ar_ne (by decide)]; exact ⟨r, hr, h8⟩
    · split
      · rw [sp_ar_ne (by decide)]; exact ⟨r, hr, h8⟩
      · split
        · rw [sp_ar_ne (by decide)]; exact ⟨r, hr, h8⟩
        · rw [m2_ne (by decide)]; exact ⟨r, hr, h8⟩
  · rw [sp_outS]
    split
    · rw [sp_ar_ne (by decide)]; exact ⟨r, hr, h8⟩
    · split
      · rw [sp_ar_ne (by decide)]; exact ⟨r, hr, h8⟩
      · split
        · rw [sp_ar_ne (by decide)]; exact ⟨r, hr, h8⟩
        · rw [sp_set_ne (by decide)]; exact ⟨r, hr, h8⟩
  · exact ⟨r, hr, h8⟩
  · rw [sp_ar_ne (by decide)]; exact ⟨r, hr, h8⟩
  · rw [sp_tell_ne (by decide) (by decide) (by decide)]; exact ⟨r, hr, h8⟩
  · by_cases hyx : y = x
    · subst hyx
      exact ⟨0, by omega, m2_at⟩
    · rw [m2_o hyx]; exact ⟨r, hr, h8⟩
theorem thr_n {t : Nat} (h : t ≤ 10) : thr (nI t) := Or.inr ⟨t, h, rfl⟩
theorem thr_m : thr (-1) := Or.inl rfl
theorem ar2_yes {a b c : Int32} (h : ¬ sp_areIn 9 a b c = 0) : ∃ t, t ≤ 2 ∧ a = nI t := by
  simp only [sp_areIn] at h
  by_cases h1 : a < 0
  · rw [if_pos h1] at h; exact absurd rfl h
  · rw [if_neg h1] at h
    by_cases h2 : nI 2 < a
    · rw [if_pos h2] at h; exact absurd rfl h
    · exact ix_le (by decide) h1 h2
theorem doR_thr {S : Nat → Nat → Int32} {x so : Nat} {ra rb rc : Int32} (h : ¬ sp_areIn so ra rb rc = 0) : thr (sp_doR S x so ra rb rc) := by
  unfold sp_doR
  split
  · unfold sp_divR
    split
    · exact thr_n (t := 3) (by decide)
    · exact thr_m
  · unfold sp_rowR
    split
    · exact thr_n (t := 6) (by decide)
    · exact thr_m
  · unfold sp_inR
    split
    · exact thr_n (t := 4) (by decide)
    · split
      · exact thr_n (t := 5) (by decide)
      · split
        · exact thr_n (t := 5) (by decide)
        · exact thr_m
  · unfold sp_inR
    split
    · exact thr_n (t := 4) (by decide)
    · split
      · exact thr_n (t := 5) (by decide)
      · split
        · exact thr_n (t := 5) (by decide)
        · exact thr_m
  · obtain ⟨t, h1, h2⟩ := ar2_yes h
    rw [h2]
    exact thr_n (by omega)
  · exact thr_m
theorem doS_sta {S : Nat → Nat → Int32} {e x so : Nat} {ra rb rc : Int32} : sta S (sp_doS S e x so ra rb rc) := fun k h => doS_ne (by omega) (by omega) (by omega) (by omega) (by omega) (by omega) (by omega) (by omega)
theorem doS_dI {n : Nat} {S : Nat → Nat → Int32} {x so : Nat} {ra rb rc : Int32} (h : dI n S) : dI n (sp_doS S (cev S) x so ra rb rc) :=
  h.mk2 (doS_13 h.ev.1 h.ev.2) (doS_ne (by decide) (by decide) (by decide) (by decide) (by decide) (by decide) (by decide) (by decide)) (doS_8 h.2.2.1) (doS_ne (by decide) (by decide) (by decide) (by decide) (by decide) (by decide) (by decide) (by decide))
theorem doS_12 {S : Nat → Nat → Int32} {e x so : Nat} {ra rb rc : Int32} : sp_doS S e x so ra rb rc 12 = S 12 := doS_ne (by decide) (by decide) (by decide) (by decide) (by decide) (by decide) (by decide) (by decide)
theorem bgS_sta {S : Nat → Nat → Int32} : sta S (bgS S) := fun k h => m2_ne (by omega)
theorem bgS_dI {n : Nat} {S : Nat → Nat → Int32} (h : dI n S) (h80 : ¬ nI 80 ≤ S 17 0) : dI n (bgS S) := by
  obtain ⟨h13, ⟨k, hk, h17⟩, h8, h12⟩ := h
  refine ⟨by rw [bgS, m2_ne (by decide)]; exact h13, ⟨k + 1, ?_, ?_⟩, fun x hx => by rw [bgS, m2_ne (by decide)]; exact h8 x hx, fun x hx => by rw [bgS, m2_ne (by decide)]; exact h12 x hx⟩
  · rw [h17] at h80
    have := (not_congr (nI_leI (by decide) (by omega))).mp h80
    omega
  · rw [bgS, m2_at, h17, nI_add]
theorem good.tr {n : Nat} {S : Nat → Nat → Int32} {r r2 : Int32 × cST} (h : good n S r) (h2 : good n r.2.1 r2) : good n S r2 := ⟨h.1.tr h2.1, h.2.1.tr h2.2.1, h2.2.2⟩
theorem good.pre {n : Nat} {S S2 : Nat → Nat → Int32} {r2 : Int32 × cST} (h1 : sta S S2) (hm : mon n S S2) (h2 : good n S2 r2) : good n S r2 := ⟨h1.tr h2.1, hm.tr h2.2.1, h2.2.2⟩
