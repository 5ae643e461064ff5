/-! THE REFERENCE: one object and its rows. S: what the class shares with it (fields 0 .. 18), X: its own (19 ..) -/
def m2 (M : Nat → Nat → Int32) (k i : Nat) (x : Int32) : Nat → Nat → Int32 := fun a => if a = k then va_up (M a) i x else M a
theorem m2_ne {M : Nat → Nat → Int32} {k i a : Nat} {x : Int32} (h : a ≠ k) : m2 M k i x a = M a := by simp [m2, h]
theorem m2_eq {M : Nat → Nat → Int32} {k i : Nat} {x : Int32} : m2 M k i x k = va_up (M k) i x := by simp [m2]
def rlen (n : Nat) : Nat := match n with
  | 1 => 12
  | 2 => 12
  | 3 => 12
  | 4 => 12
  | 5 => 36
  | 6 => 48
  | 7 => 48
  | 8 => 12
  | 9 => 240
  | 10 => 48
  | 11 => 1920
  | 12 => 12
  | 14 => 60
  | 15 => 60
  | 23 => 300
  | 24 => 300
  | 25 => 300
  | 26 => 300
  | 27 => 300
  | 28 => 300
  | 29 => 3000
  | 30 => 3000
  | 33 => 48
  | _ => 0
def rcl (n : Nat) : Nat := match n with
  | 1 => 1
  | 2 => 1
  | 7 => 1
  | 33 => 1
  | _ => 0
def rfs (adr : Nat → Nat) (S X : Nat → Nat → Int32) : List Value := [.int (S 0 0), .ref (adr 1), .ref (adr 2), .ref (adr 3), .ref (adr 4), .ref (adr 5), .ref (adr 6), .ref (adr 7), .ref (adr 8), .ref (adr 9), .ref (adr 10), .ref (adr 11), .ref (adr 12), .int (S 13 0), .ref (adr 14), .ref (adr 15), .int (S 16 0), .int (S 17 0), .int (S 18 0), .int (X 19 0), .int (X 20 0), .int (X 21 0), .int (X 22 0), .ref (adr 23), .ref (adr 24), .ref (adr 25), .ref (adr 26), .ref (adr 27), .ref (adr 28), .ref (adr 29), .ref (adr 30), .int (X 31 0), .int (X 32 0), .ref (adr 33)]
def rcel (G : gw_G) (adr : Nat → Nat) (S X : Nat → Nat → Int32) (n : Nat) : Option va_E := if n = 0 then some (.inr (7, rfs adr S X)) else if rlen n = 0 then none else some (.inl (G.2 (rcl n), rlen n, .inl (if n ≤ 18 then S n else X n)))
abbrev rB (G : gw_G) (A : Nat → Prop) (adr : Nat → Nat) (S X : Nat → Nat → Int32) (H0 H : Heap) (locs : List Loc) : Prop := gw_B G A adr (rcel G adr S X) H0 H locs
/-- the world of the reference at a state -/
def rW (G : gw_G) (A : Nat → Prop) (adr : Nat → Nat) (S X : Nat → Nat → Int32) (U : State) : Prop := gw_P G.1 adr (rcel G adr S X) U.heap ∧ gw_D A adr (rcel G adr S X) ∧ gw_K G U
theorem rcel_S {G : gw_G} {adr : Nat → Nat} {S X : Nat → Nat → Int32} {i : Nat} {x : Int32} (k : Nat) (hk : rlen k ≠ 0) (h0 : k ≤ 18) : va_up (rcel G adr S X) k (some (.inl (G.2 (rcl k), rlen k, .inl (va_up (S k) i x)))) = rcel G adr (m2 S k i x) X := by
  have hn : ∀ a, rlen a = 0 → m2 S k i x a = S a := fun a h => m2_ne (fun q => hk (by rw [← q]; exact h))
  have hk0 : k ≠ 0 := fun q => hk (by rw [q]; rfl)
  have hf : rfs adr (m2 S k i x) X = rfs adr S X := by simp only [rfs, hn 0 rfl, hn 13 rfl, hn 16 rfl, hn 17 rfl, hn 18 rfl]
  funext n
  by_cases h : n = k
  · subst h
    simp only [va_up, if_pos, rcel, if_neg hk0, if_neg hk, if_pos h0, m2_eq]
  · simp only [va_up, if_neg h, rcel, hf, m2_ne h]
theorem rcel_X {G : gw_G} {adr : Nat → Nat} {S X : Nat → Nat → Int32} {i : Nat} {x : Int32} (k : Nat) (hk : rlen k ≠ 0) (h0 : ¬ k ≤ 18) : va_up (rcel G adr S X) k (some (.inl (G.2 (rcl k), rlen k, .inl (va_up (X k) i x)))) = rcel G adr S (m2 X k i x) := by
  have hn : ∀ a, rlen a = 0 → m2 X k i x a = X a := fun a h => m2_ne (fun q => hk (by rw [← q]; exact h))
  have hk0 : k ≠ 0 := fun q => hk (by rw [q]; rfl)
  have hf : rfs adr S (m2 X k i x) = rfs adr S X := by simp only [rfs, hn 19 rfl, hn 20 rfl, hn 21 rfl, hn 22 rfl, hn 31 rfl, hn 32 rfl]
  funext n
  by_cases h : n = k
  · subst h
    simp only [va_up, if_pos, rcel, if_neg hk0, if_neg hk, if_neg h0, m2_eq]
  · simp only [va_up, if_neg h, rcel, hf, m2_ne h]
theorem rcel_p0 {G : gw_G} {adr : Nat → Nat} {S X : Nat → Nat → Int32} {v : Int32} : va_up (rcel G adr S X) 0 (some (.inr (7, (rfs adr S X).set 0 (.int v)))) = rcel G adr (m2 S 0 0 v) X := by
  have hn : ∀ a, a ≠ 0 → m2 S 0 0 v a = S a := fun a h => m2_ne h
  have he : m2 S 0 0 v 0 0 = v := by simp [m2, va_up]
  funext n
  by_cases h : n = 0
  · subst h
    simp only [va_up, if_pos, rcel, rfs, he, hn 13 (by decide), hn 16 (by decide), hn 17 (by decide), hn 18 (by decide), List.set]
  · by_cases hz : rlen n = 0
    · simp only [va_up, if_neg h, rcel, if_pos hz]
    · simp only [va_up, if_neg h, rcel, if_neg hz, hn n (fun q => hz (by rw [q]; rfl))]
theorem rcel_p13 {G : gw_G} {adr : Nat → Nat} {S X : Nat → Nat → Int32} {v : Int32} : va_up (rcel G adr S X) 0 (some (.inr (7, (rfs adr S X).set 13 (.int v)))) = rcel G adr (m2 S 13 0 v) X := by
  have hn : ∀ a, a ≠ 13 → m2 S 13 0 v a = S a := fun a h => m2_ne h
  have he : m2 S 13 0 v 13 0 = v := by simp [m2, va_up]
  funext n
  by_cases h : n = 0
  · subst h
    simp only [va_up, if_pos, rcel, rfs, he, hn 0 (by decide), hn 16 (by decide), hn 17 (by decide), hn 18 (by decide), List.set]
  · by_cases hz : rlen n = 0
    · simp only [va_up, if_neg h, rcel, if_pos hz]
    · simp only [va_up, if_neg h, rcel, if_neg hz, hn n (fun q => hz (by rw [q]; rfl))]
theorem rcel_p16 {G : gw_G} {adr : Nat → Nat} {S X : Nat → Nat → Int32} {v : Int32} : va_up (rcel G adr S X) 0 (some (.inr (7, (rfs adr S X).set 16 (.int v)))) = rcel G adr (m2 S 16 0 v) X := by
  have hn : ∀ a, a ≠ 16 → m2 S 16 0 v a = S a := fun a h => m2_ne h
  have he : m2 S 16 0 v 16 0 = v := by simp [m2, va_up]
  funext n
  by_cases h : n = 0
  · subst h
    simp only [va_up, if_pos, rcel, rfs, he, hn 0 (by decide), hn 13 (by decide), hn 17 (by decide), hn 18 (by decide), List.set]
  · by_cases hz : rlen n = 0
    · simp only [va_up, if_neg h, rcel, if_pos hz]
    · simp only [va_up, if_neg h, rcel, if_neg hz, hn n (fun q => hz (by rw [q]; rfl))]
theorem rcel_p17 {G : gw_G} {adr : Nat → Nat} {S X : Nat → Nat → Int32} {v : Int32} : va_up (rcel G adr S X) 0 (some (.inr (7, (rfs adr S X).set 17 (.int v)))) = rcel G adr (m2 S 17 0 v) X := by
  have hn : ∀ a, a ≠ 17 → m2 S 17 0 v a = S a := fun a h => m2_ne h
  have he : m2 S 17 0 v 17 0 = v := by simp [m2, va_up]
  funext n
  by_cases h : n = 0
  · subst h
    simp only [va_up, if_pos, rcel, rfs, he, hn 0 (by decide), hn 13 (by decide), hn 16 (by decide), hn 18 (by decide), List.set]
  · by_cases hz : rlen n = 0
    · simp only [va_up, if_neg h, rcel, if_pos hz]
    · simp only [va_up, if_neg h, rcel, if_neg hz, hn n (fun q => hz (by rw [q]; rfl))]
theorem rcel_p18 {G : gw_G} {adr : Nat → Nat} {S X : Nat → Nat → Int32} {v : Int32} : va_up (rcel G adr S X) 0 (some (.inr (7, (rfs adr S X).set 18 (.int v)))) = rcel G adr (m2 S 18 0 v) X := by
  have hn : ∀ a, a ≠ 18 → m2 S 18 0 v a = S a := fun a h => m2_ne h
  have he : m2 S 18 0 v 18 0 = v := by simp [m2, va_up]
  funext n
  by_cases h : n = 0
  · subst h
    simp only [va_up, if_pos, rcel, rfs, he, hn 0 (by decide), hn 13 (by decide), hn 16 (by decide), hn 17 (by decide), List.set]
  · by_cases hz : rlen n = 0
    · simp only [va_up, if_neg h, rcel, if_pos hz]
    · simp only [va_up, if_neg h, rcel, if_neg hz, hn n (fun q => hz (by rw [q]; rfl))]
theorem rcel_p19 {G : gw_G} {adr : Nat → Nat} {S X : Nat → Nat → Int32} {v : Int32} : va_up (rcel G adr S X) 0 (some (.inr (7, (rfs adr S X).set 19 (.int v)))) = rcel G adr S (m2 X 19 0 v) := by
  have hn : ∀ a, a ≠ 19 → m2 X 19 0 v a = X a := fun a h => m2_ne h
  have he : m2 X 19 0 v 19 0 = v := by simp [m2, va_up]
  funext n
  by_cases h : n = 0
  · subst h
    simp only [va_up, if_pos, rcel, rfs, he, hn 20 (by decide), hn 21 (by decide), hn 22 (by decide), hn 31 (by decide), hn 32 (by decide), List.set]
  · by_cases hz : rlen n = 0
    · simp only [va_up, if_neg h, rcel, if_pos hz]
    · simp only [va_up, if_neg h, rcel, if_neg hz, hn n (fun q => hz (by rw [q]; rfl))]
theorem rcel_p20 {G : gw_G} {adr : Nat → Nat} {S X : Nat → Nat → Int32} {v : Int32} : va_up (rcel G adr S X) 0 (some (.inr (7, (rfs adr S X).set 20 (.int v)))) = rcel G adr S (m2 X 20 0 v) := by
  have hn : ∀ a, a ≠ 20 → m2 X 20 0 v a = X a := fun a h => m2_ne h
  have he : m2 X 20 0 v 20 0 = v := by simp [m2, va_up]
  funext n
  by_cases h : n = 0
  · subst h
    simp only [va_up, if_pos, rcel, rfs, he, hn 19 (by decide), hn 21 (by decide), hn 22 (by decide), hn 31 (by decide), hn 32 (by decide), List.set]
  · by_cases hz : rlen n = 0
    · simp only [va_up, if_neg h, rcel, if_pos hz]
    · simp only [va_up, if_neg h, rcel, if_neg hz, hn n (fun q => hz (by rw [q]; rfl))]
theorem rcel_p21 {G : gw_G} {adr : Nat → Nat} {S X : Nat → Nat → Int32} {v : Int32} : va_up (rcel G adr S X) 0 (some (.inr (7, (rfs adr S X).set 21 (.int v)))) = rcel G adr S (m2 X 21 0 v) := by
  have hn : ∀ a, a ≠ 21 → m2 X 21 0 v a = X a := fun a h => m2_ne h
  have he : m2 X 21 0 v 21 0 = v := by simp [m2, va_up]
  funext n
  by_cases h : n = 0
  · subst h
    simp only [va_up, if_pos, rcel, rfs, he, hn 19 (by decide), hn 20 (by decide), hn 22 (by decide), hn 31 (by decide), hn 32 (by decide), List.set]
  · by_cases hz : rlen n = 0
    · simp only [va_up, if_neg h, rcel, if_pos hz]
    · simp only [va_up, if_neg h, rcel, if_neg hz, hn n (fun q => hz (by rw [q]; rfl))]
theorem rcel_p22 {G : gw_G} {adr : Nat → Nat} {S X : Nat → Nat → Int32} {v : Int32} : va_up (rcel G adr S X) 0 (some (.inr (7, (rfs adr S X).set 22 (.int v)))) = rcel G adr S (m2 X 22 0 v) := by
  have hn : ∀ a, a ≠ 22 → m2 X 22 0 v a = X a := fun a h => m2_ne h
  have he : m2 X 22 0 v 22 0 = v := by simp [m2, va_up]
  funext n
  by_cases h : n = 0
  · subst h
    simp only [va_up, if_pos, rcel, rfs, he, hn 19 (by decide), hn 20 (by decide), hn 21 (by decide), hn 31 (by decide), hn 32 (by decide), List.set]
  · by_cases hz : rlen n = 0
    · simp only [va_up, if_neg h, rcel, if_pos hz]
    · simp only [va_up, if_neg h, rcel, if_neg hz, hn n (fun q => hz (by rw [q]; rfl))]
theorem rcel_p31 {G : gw_G} {adr : Nat → Nat} {S X : Nat → Nat → Int32} {v : Int32} : va_up (rcel G adr S X) 0 (some (.inr (7, (rfs adr S X).set 31 (.int v)))) = rcel G adr S (m2 X 31 0 v) := by
  have hn : ∀ a, a ≠ 31 → m2 X 31 0 v a = X a := fun a h => m2_ne h
  have he : m2 X 31 0 v 31 0 = v := by simp [m2, va_up]
  funext n
  by_cases h : n = 0
  · subst h
    simp only [va_up, if_pos, rcel, rfs, he, hn 19 (by decide), hn 20 (by decide), hn 21 (by decide), hn 22 (by decide), hn 32 (by decide), List.set]
  · by_cases hz : rlen n = 0
    · simp only [va_up, if_neg h, rcel, if_pos hz]
    · simp only [va_up, if_neg h, rcel, if_neg hz, hn n (fun q => hz (by rw [q]; rfl))]
theorem rcel_p32 {G : gw_G} {adr : Nat → Nat} {S X : Nat → Nat → Int32} {v : Int32} : va_up (rcel G adr S X) 0 (some (.inr (7, (rfs adr S X).set 32 (.int v)))) = rcel G adr S (m2 X 32 0 v) := by
  have hn : ∀ a, a ≠ 32 → m2 X 32 0 v a = X a := fun a h => m2_ne h
  have he : m2 X 32 0 v 32 0 = v := by simp [m2, va_up]
  funext n
  by_cases h : n = 0
  · subst h
    simp only [va_up, if_pos, rcel, rfs, he, hn 19 (by decide), hn 20 (by decide), hn 21 (by decide), hn 22 (by decide), hn 31 (by decide), List.set]
  · by_cases hz : rlen n = 0
    · simp only [va_up, if_neg h, rcel, if_pos hz]
    · simp only [va_up, if_neg h, rcel, if_neg hz, hn n (fun q => hz (by rw [q]; rfl))]
theorem nb_b {x : Int32} (h : x = 0 ∨ x = 1) : vp_nar .boolean x = x := by rcases h with rfl | rfl <;> decide
section RW
variable {p : Program} {l : Launch} {e : Env} {R : Room} {s : State} {m : MethodId} {args : Array Value} {below : List Frame} {meth : Method} {c : Code} {H : Heap} {locs : List Loc} {cells slots : Nat} {Q : State → Prop}
variable {cc : ByteArray} {pc : Nat} {ls : Array Slot} {rest : List Value} {G : gw_G} {A : Nat → Prop} {H0 : Heap} {adr : Nat → Nat} {S X : Nat → Nat → Int32}
theorem rg_0 (F : gw_F p m c cc s args RX7) (hK : gw_K G s) (hR : rB G A adr S X H0 H locs) (hdg : decode cc pc = .ok (.getfield 84, 3)) (kk : W p l e R s m args below meth c H locs cells slots Q (F0 m (pc + 3) ls (.int (S 0 0) :: rest))) : W p l e R s m args below meth c H locs cells slots Q (F0 m pc ls (.ref (adr 0) :: rest)) := gw_get F hK hR.1 0 rfl rfl inX7 0 (by decide) fl_X7_84 rfl hdg kk
theorem rp_0 (F : gw_F p m c cc s args RX7) (hK : gw_K G s) (hR : rB G A adr S X H0 H locs) {v : Int32} (hdg : decode cc pc = .ok (.putfield 84, 3)) (kk : ∀ (H1 : Heap) (locs1 : List Loc), rB G A adr (m2 S 0 0 v) X H0 H1 locs1 → W p l e R s m args below meth c H1 locs1 cells slots Q (F0 m (pc + 3) ls (rest))) : W p l e R s m args below meth c H locs cells slots Q (F0 m pc ls (.int v :: .ref (adr 0) :: rest)) := gw_put F hK hR 0 rfl rfl inX7 tyX7 tyX7_ok nmX7 0 (by decide) fl_X7_84 rfl (ty := .int) rfl rfl rfl (Nat.le_of_ble_eq_true rfl) hdg (fun H1 locs1 hB => kk H1 locs1 (gw_B.to hB rcel_p0))
theorem rg_1 (F : gw_F p m c cc s args RX7) (hK : gw_K G s) (hR : rB G A adr S X H0 H locs) (hdg : decode cc pc = .ok (.getfield 7, 3)) (kk : W p l e R s m args below meth c H locs cells slots Q (F0 m (pc + 3) ls (.ref (adr 1) :: rest))) : W p l e R s m args below meth c H locs cells slots Q (F0 m pc ls (.ref (adr 0) :: rest)) := gw_get F hK hR.1 0 rfl rfl inX7 1 (by decide) fl_X7_7 rfl hdg kk
theorem ri_1 (F : gw_F p m c cc s args RX7) (hK : gw_K G s) (hR : rB G A adr S X H0 H locs) {j : Nat} (hj : j < 12) (hdg : decode cc pc = .ok (.baload, 1)) (kk : W p l e R s m args below meth c H locs cells slots Q (F0 m (pc + 1) ls (.int (S 1 j) :: rest))) : W p l e R s m args below meth c H locs cells slots Q (F0 m pc ls (.int (nI j) :: .ref (adr 1) :: rest)) := by
  refine gw_zald F hK hR.1 1 (N := 12) (f := S 1) rfl (vp_in_nI hj (by decide)) hdg ?_
  rw [nI_clamp (by omega)]
  exact kk
theorem rs_1 (F : gw_F p m c cc s args RX7) (hK : gw_K G s) (hR : rB G A adr S X H0 H locs) {j : Nat} {x : Int32} (hj : j < 12) (hx : x = 0 ∨ x = 1) (hdg : decode cc pc = .ok (.bastore, 1)) (kk : ∀ (H1 : Heap) (locs1 : List Loc), rB G A adr (m2 S 1 j x) X H0 H1 locs1 → W p l e R s m args below meth c H1 locs1 cells slots Q (F0 m (pc + 1) ls (rest))) : W p l e R s m args below meth c H locs cells slots Q (F0 m pc ls (.int x :: .int (nI j) :: .ref (adr 1) :: rest)) := by
  refine gw_zast F hK hR 1 (N := 12) (f := S 1) rfl (vp_in_nI hj (by decide)) hdg (fun H1 locs1 hB => ?_)
  rw [nb_b hx, nI_clamp (by omega)] at hB
  exact kk H1 locs1 (gw_B.to hB (rcel_S 1 (by decide) (by decide)))
theorem rg_2 (F : gw_F p m c cc s args RX7) (hK : gw_K G s) (hR : rB G A adr S X H0 H locs) (hdg : decode cc pc = .ok (.getfield 13, 3)) (kk : W p l e R s m args below meth c H locs cells slots Q (F0 m (pc + 3) ls (.ref (adr 2) :: rest))) : W p l e R s m args below meth c H locs cells slots Q (F0 m pc ls (.ref (adr 0) :: rest)) := gw_get F hK hR.1 0 rfl rfl inX7 2 (by decide) fl_X7_13 rfl hdg kk
theorem ri_2 (F : gw_F p m c cc s args RX7) (hK : gw_K G s) (hR : rB G A adr S X H0 H locs) {j : Nat} (hj : j < 12) (hdg : decode cc pc = .ok (.baload, 1)) (kk : W p l e R s m args below meth c H locs cells slots Q (F0 m (pc + 1) ls (.int (S 2 j) :: rest))) : W p l e R s m args below meth c H locs cells slots Q (F0 m pc ls (.int (nI j) :: .ref (adr 2) :: rest)) := by
  refine gw_zald F hK hR.1 2 (N := 12) (f := S 2) rfl (vp_in_nI hj (by decide)) hdg ?_
  rw [nI_clamp (by omega)]
  exact kk
theorem rs_2 (F : gw_F p m c cc s args RX7) (hK : gw_K G s) (hR : rB G A adr S X H0 H locs) {j : Nat} {x : Int32} (hj : j < 12) (hx : x = 0 ∨ x = 1) (hdg : decode cc pc = .ok (.bastore, 1)) (kk : ∀ (H1 : Heap) (locs1 : List Loc), rB G A adr (m2 S 2 j x) X H0 H1 locs1 → W p l e R s m args below meth c H1 locs1 cells slots Q (F0 m (pc + 1) ls (rest))) : W p l e R s m args below meth c H locs cells slots Q (F0 m pc ls (.int x :: .int (nI j) :: .ref (adr 2) :: rest)) := by
  refine gw_zast F hK hR 2 (N := 12) (f := S 2) rfl (vp_in_nI hj (by decide)) hdg (fun H1 locs1 hB => ?_)
  rw [nb_b hx, nI_clamp (by omega)] at hB
  exact kk H1 locs1 (gw_B.to hB (rcel_S 2 (by decide) (by decide)))
theorem rg_3 (F : gw_F p m c cc s args RX7) (hK : gw_K G s) (hR : rB G A adr S X H0 H locs) (hdg : decode cc pc = .ok (.getfield 16, 3)) (kk : W p l e R s m args below meth c H locs cells slots Q (F0 m (pc + 3) ls (.ref (adr 3) :: rest))) : W p l e R s m args below meth c H locs cells slots Q (F0 m pc ls (.ref (adr 0) :: rest)) := gw_get F hK hR.1 0 rfl rfl inX7 3 (by decide) fl_X7_16 rfl hdg kk
theorem ri_3 (F : gw_F p m c cc s args RX7) (hK : gw_K G s) (hR : rB G A adr S X H0 H locs) {j : Nat} (hj : j < 12) (hdg : decode cc pc = .ok (.iaload, 1)) (kk : W p l e R s m args below meth c H locs cells slots Q (F0 m (pc + 1) ls (.int (S 3 j) :: rest))) : W p l e R s m args below meth c H locs cells slots Q (F0 m pc ls (.int (nI j) :: .ref (adr 3) :: rest)) := by
  refine gw_iald F hK hR.1 3 (N := 12) (f := S 3) rfl (vp_in_nI hj (by decide)) hdg ?_
  rw [nI_clamp (by omega)]
  exact kk
theorem rs_3 (F : gw_F p m c cc s args RX7) (hK : gw_K G s) (hR : rB G A adr S X H0 H locs) {j : Nat} {x : Int32} (hj : j < 12) (hdg : decode cc pc = .ok (.iastore, 1)) (kk : ∀ (H1 : Heap) (locs1 : List Loc), rB G A adr (m2 S 3 j x) X H0 H1 locs1 → W p l e R s m args below meth c H1 locs1 cells slots Q (F0 m (pc + 1) ls (rest))) : W p l e R s m args below meth c H locs cells slots Q (F0 m pc ls (.int x :: .int (nI j) :: .ref (adr 3) :: rest)) := by
  refine gw_iast F hK hR 3 (N := 12) (f := S 3) rfl (vp_in_nI hj (by decide)) hdg (fun H1 locs1 hB => ?_)
  rw [nI_clamp (by omega)] at hB
  exact kk H1 locs1 (gw_B.to hB (rcel_S 3 (by decide) (by decide)))
theorem rg_4 (F : gw_F p m c cc s args RX7) (hK : gw_K G s) (hR : rB G A adr S X H0 H locs) (hdg : decode cc pc = .ok (.getfield 20, 3)) (kk : W p l e R s m args below meth c H locs cells slots Q (F0 m (pc + 3) ls (.ref (adr 4) :: rest))) : W p l e R s m args below meth c H locs cells slots Q (F0 m pc ls (.ref (adr 0) :: rest)) := gw_get F hK hR.1 0 rfl rfl inX7 4 (by decide) fl_X7_20 rfl hdg kk
theorem ri_4 (F : gw_F p m c cc s args RX7) (hK : gw_K G s) (hR : rB G A adr S X H0 H locs) {j : Nat} (hj : j < 12) (hdg : decode cc pc = .ok (.iaload, 1)) (kk : W p l e R s m args below meth c H locs cells slots Q (F0 m (pc + 1) ls (.int (S 4 j) :: rest))) : W p l e R s m args below meth c H locs cells slots Q (F0 m pc ls (.int (nI j) :: .ref (adr 4) :: rest)) := by
  refine gw_iald F hK hR.1 4 (N := 12) (f := S 4) rfl (vp_in_nI hj (by decide)) hdg ?_
  rw [nI_clamp (by omega)]
  exact kk
theorem rs_4 (F : gw_F p m c cc s args RX7) (hK : gw_K G s) (hR : rB G A adr S X H0 H locs) {j : Nat} {x : Int32} (hj : j < 12) (hdg : decode cc pc = .ok (.iastore, 1)) (kk : ∀ (H1 : Heap) (locs1 : List Loc), rB G A adr (m2 S 4 j x) X H0 H1 locs1 → W p l e R s m args below meth c H1 locs1 cells slots Q (F0 m (pc + 1) ls (rest))) : W p l e R s m args below meth c H locs cells slots Q (F0 m pc ls (.int x :: .int (nI j) :: .ref (adr 4) :: rest)) := by
  refine gw_iast F hK hR 4 (N := 12) (f := S 4) rfl (vp_in_nI hj (by decide)) hdg (fun H1 locs1 hB => ?_)
  rw [nI_clamp (by omega)] at hB
  exact kk H1 locs1 (gw_B.to hB (rcel_S 4 (by decide) (by decide)))
theorem rg_5 (F : gw_F p m c cc s args RX7) (hK : gw_K G s) (hR : rB G A adr S X H0 H locs) (hdg : decode cc pc = .ok (.getfield 23, 3)) (kk : W p l e R s m args below meth c H locs cells slots Q (F0 m (pc + 3) ls (.ref (adr 5) :: rest))) : W p l e R s m args below meth c H locs cells slots Q (F0 m pc ls (.ref (adr 0) :: rest)) := gw_get F hK hR.1 0 rfl rfl inX7 5 (by decide) fl_X7_23 rfl hdg kk
theorem ri_5 (F : gw_F p m c cc s args RX7) (hK : gw_K G s) (hR : rB G A adr S X H0 H locs) {j : Nat} (hj : j < 36) (hdg : decode cc pc = .ok (.iaload, 1)) (kk : W p l e R s m args below meth c H locs cells slots Q (F0 m (pc + 1) ls (.int (S 5 j) :: rest))) : W p l e R s m args below meth c H locs cells slots Q (F0 m pc ls (.int (nI j) :: .ref (adr 5) :: rest)) := by
  refine gw_iald F hK hR.1 5 (N := 36) (f := S 5) rfl (vp_in_nI hj (by decide)) hdg ?_
  rw [nI_clamp (by omega)]
  exact kk
theorem rs_5 (F : gw_F p m c cc s args RX7) (hK : gw_K G s) (hR : rB G A adr S X H0 H locs) {j : Nat} {x : Int32} (hj : j < 36) (hdg : decode cc pc = .ok (.iastore, 1)) (kk : ∀ (H1 : Heap) (locs1 : List Loc), rB G A adr (m2 S 5 j x) X H0 H1 locs1 → W p l e R s m args below meth c H1 locs1 cells slots Q (F0 m (pc + 1) ls (rest))) : W p l e R s m args below meth c H locs cells slots Q (F0 m pc ls (.int x :: .int (nI j) :: .ref (adr 5) :: rest)) := by
  refine gw_iast F hK hR 5 (N := 36) (f := S 5) rfl (vp_in_nI hj (by decide)) hdg (fun H1 locs1 hB => ?_)
  rw [nI_clamp (by omega)] at hB
  exact kk H1 locs1 (gw_B.to hB (rcel_S 5 (by decide) (by decide)))
theorem rg_6 (F : gw_F p m c cc s args RX7) (hK : gw_K G s) (hR : rB G A adr S X H0 H locs) (hdg : decode cc pc = .ok (.getfield 26, 3)) (kk : W p l e R s m args below meth c H locs cells slots Q (F0 m (pc + 3) ls (.ref (adr 6) :: rest))) : W p l e R s m args below meth c H locs cells slots Q (F0 m pc ls (.ref (adr 0) :: rest)) := gw_get F hK hR.1 0 rfl rfl inX7 6 (by decide) fl_X7_26 rfl hdg kk
theorem ri_6 (F : gw_F p m c cc s args RX7) (hK : gw_K G s) (hR : rB G A adr S X H0 H locs) {j : Nat} (hj : j < 48) (hdg : decode cc pc = .ok (.iaload, 1)) (kk : W p l e R s m args below meth c H locs cells slots Q (F0 m (pc + 1) ls (.int (S 6 j) :: rest))) : W p l e R s m args below meth c H locs cells slots Q (F0 m pc ls (.int (nI j) :: .ref (adr 6) :: rest)) := by
  refine gw_iald F hK hR.1 6 (N := 48) (f := S 6) rfl (vp_in_nI hj (by decide)) hdg ?_
  rw [nI_clamp (by omega)]
  exact kk
theorem rs_6 (F : gw_F p m c cc s args RX7) (hK : gw_K G s) (hR : rB G A adr S X H0 H locs) {j : Nat} {x : Int32} (hj : j < 48) (hdg : decode cc pc = .ok (.iastore, 1)) (kk : ∀ (H1 : Heap) (locs1 : List Loc), rB G A adr (m2 S 6 j x) X H0 H1 locs1 → W p l e R s m args below meth c H1 locs1 cells slots Q (F0 m (pc + 1) ls (rest))) : W p l e R s m args below meth c H locs cells slots Q (F0 m pc ls (.int x :: .int (nI j) :: .ref (adr 6) :: rest)) := by
  refine gw_iast F hK hR 6 (N := 48) (f := S 6) rfl (vp_in_nI hj (by decide)) hdg (fun H1 locs1 hB => ?_)
  rw [nI_clamp (by omega)] at hB
  exact kk H1 locs1 (gw_B.to hB (rcel_S 6 (by decide) (by decide)))
theorem rg_7 (F : gw_F p m c cc s args RX7) (hK : gw_K G s) (hR : rB G A adr S X H0 H locs) (hdg : decode cc pc = .ok (.getfield 29, 3)) (kk : W p l e R s m args below meth c H locs cells slots Q (F0 m (pc + 3) ls (.ref (adr 7) :: rest))) : W p l e R s m args below meth c H locs cells slots Q (F0 m pc ls (.ref (adr 0) :: rest)) := gw_get F hK hR.1 0 rfl rfl inX7 7 (by decide) fl_X7_29 rfl hdg kk
theorem ri_7 (F : gw_F p m c cc s args RX7) (hK : gw_K G s) (hR : rB G A adr S X H0 H locs) {j : Nat} (hj : j < 48) (hdg : decode cc pc = .ok (.baload, 1)) (kk : W p l e R s m args below meth c H locs cells slots Q (F0 m (pc + 1) ls (.int (S 7 j) :: rest))) : W p l e R s m args below meth c H locs cells slots Q (F0 m pc ls (.int (nI j) :: .ref (adr 7) :: rest)) := by
  refine gw_zald F hK hR.1 7 (N := 48) (f := S 7) rfl (vp_in_nI hj (by decide)) hdg ?_
  rw [nI_clamp (by omega)]
  exact kk
theorem rs_7 (F : gw_F p m c cc s args RX7) (hK : gw_K G s) (hR : rB G A adr S X H0 H locs) {j : Nat} {x : Int32} (hj : j < 48) (hx : x = 0 ∨ x = 1) (hdg : decode cc pc = .ok (.bastore, 1)) (kk : ∀ (H1 : Heap) (locs1 : List Loc), rB G A adr (m2 S 7 j x) X H0 H1 locs1 → W p l e R s m args below meth c H1 locs1 cells slots Q (F0 m (pc + 1) ls (rest))) : W p l e R s m args below meth c H locs cells slots Q (F0 m pc ls (.int x :: .int (nI j) :: .ref (adr 7) :: rest)) := by
  refine gw_zast F hK hR 7 (N := 48) (f := S 7) rfl (vp_in_nI hj (by decide)) hdg (fun H1 locs1 hB => ?_)
  rw [nb_b hx, nI_clamp (by omega)] at hB
  exact kk H1 locs1 (gw_B.to hB (rcel_S 7 (by decide) (by decide)))
theorem rg_8 (F : gw_F p m c cc s args RX7) (hK : gw_K G s) (hR : rB G A adr S X H0 H locs) (hdg : decode cc pc = .ok (.getfield 32, 3)) (kk : W p l e R s m args below meth c H locs cells slots Q (F0 m (pc + 3) ls (.ref (adr 8) :: rest))) : W p l e R s m args below meth c H locs cells slots Q (F0 m pc ls (.ref (adr 0) :: rest)) := gw_get F hK hR.1 0 rfl rfl inX7 8 (by decide) fl_X7_32 rfl hdg kk
theorem ri_8 (F : gw_F p m c cc s args RX7) (hK : gw_K G s) (hR : rB G A adr S X H0 H locs) {j : Nat} (hj : j < 12) (hdg : decode cc pc = .ok (.iaload, 1)) (kk : W p l e R s m args below meth c H locs cells slots Q (F0 m (pc + 1) ls (.int (S 8 j) :: rest))) : W p l e R s m args below meth c H locs cells slots Q (F0 m pc ls (.int (nI j) :: .ref (adr 8) :: rest)) := by
  refine gw_iald F hK hR.1 8 (N := 12) (f := S 8) rfl (vp_in_nI hj (by decide)) hdg ?_
  rw [nI_clamp (by omega)]
  exact kk
theorem rs_8 (F : gw_F p m c cc s args RX7) (hK : gw_K G s) (hR : rB G A adr S X H0 H locs) {j : Nat} {x : Int32} (hj : j < 12) (hdg : decode cc pc = .ok (.iastore, 1)) (kk : ∀ (H1 : Heap) (locs1 : List Loc), rB G A adr (m2 S 8 j x) X H0 H1 locs1 → W p l e R s m args below meth c H1 locs1 cells slots Q (F0 m (pc + 1) ls (rest))) : W p l e R s m args below meth c H locs cells slots Q (F0 m pc ls (.int x :: .int (nI j) :: .ref (adr 8) :: rest)) := by
  refine gw_iast F hK hR 8 (N := 12) (f := S 8) rfl (vp_in_nI hj (by decide)) hdg (fun H1 locs1 hB => ?_)
  rw [nI_clamp (by omega)] at hB
  exact kk H1 locs1 (gw_B.to hB (rcel_S 8 (by decide) (by decide)))
theorem rg_9 (F : gw_F p m c cc s args RX7) (hK : gw_K G s) (hR : rB G A adr S X H0 H locs) (hdg : decode cc pc = .ok (.getfield 35, 3)) (kk : W p l e R s m args below meth c H locs cells slots Q (F0 m (pc + 3) ls (.ref (adr 9) :: rest))) : W p l e R s m args below meth c H locs cells slots Q (F0 m pc ls (.ref (adr 0) :: rest)) := gw_get F hK hR.1 0 rfl rfl inX7 9 (by decide) fl_X7_35 rfl hdg kk
theorem ri_9 (F : gw_F p m c cc s args RX7) (hK : gw_K G s) (hR : rB G A adr S X H0 H locs) {j : Nat} (hj : j < 240) (hdg : decode cc pc = .ok (.iaload, 1)) (kk : W p l e R s m args below meth c H locs cells slots Q (F0 m (pc + 1) ls (.int (S 9 j) :: rest))) : W p l e R s m args below meth c H locs cells slots Q (F0 m pc ls (.int (nI j) :: .ref (adr 9) :: rest)) := by
  refine gw_iald F hK hR.1 9 (N := 240) (f := S 9) rfl (vp_in_nI hj (by decide)) hdg ?_
  rw [nI_clamp (by omega)]
  exact kk
theorem rs_9 (F : gw_F p m c cc s args RX7) (hK : gw_K G s) (hR : rB G A adr S X H0 H locs) {j : Nat} {x : Int32} (hj : j < 240) (hdg : decode cc pc = .ok (.iastore, 1)) (kk : ∀ (H1 : Heap) (locs1 : List Loc), rB G A adr (m2 S 9 j x) X H0 H1 locs1 → W p l e R s m args below meth c H1 locs1 cells slots Q (F0 m (pc + 1) ls (rest))) : W p l e R s m args below meth c H locs cells slots Q (F0 m pc ls (.int x :: .int (nI j) :: .ref (adr 9) :: rest)) := by
  refine gw_iast F hK hR 9 (N := 240) (f := S 9) rfl (vp_in_nI hj (by decide)) hdg (fun H1 locs1 hB => ?_)
  rw [nI_clamp (by omega)] at hB
  exact kk H1 locs1 (gw_B.to hB (rcel_S 9 (by decide) (by decide)))
theorem rg_10 (F : gw_F p m c cc s args RX7) (hK : gw_K G s) (hR : rB G A adr S X H0 H locs) (hdg : decode cc pc = .ok (.getfield 38, 3)) (kk : W p l e R s m args below meth c H locs cells slots Q (F0 m (pc + 3) ls (.ref (adr 10) :: rest))) : W p l e R s m args below meth c H locs cells slots Q (F0 m pc ls (.ref (adr 0) :: rest)) := gw_get F hK hR.1 0 rfl rfl inX7 10 (by decide) fl_X7_38 rfl hdg kk
theorem ri_10 (F : gw_F p m c cc s args RX7) (hK : gw_K G s) (hR : rB G A adr S X H0 H locs) {j : Nat} (hj : j < 48) (hdg : decode cc pc = .ok (.iaload, 1)) (kk : W p l e R s m args below meth c H locs cells slots Q (F0 m (pc + 1) ls (.int (S 10 j) :: rest))) : W p l e R s m args below meth c H locs cells slots Q (F0 m pc ls (.int (nI j) :: .ref (adr 10) :: rest)) := by
  refine gw_iald F hK hR.1 10 (N := 48) (f := S 10) rfl (vp_in_nI hj (by decide)) hdg ?_
  rw [nI_clamp (by omega)]
  exact kk
theorem rs_10 (F : gw_F p m c cc s args RX7) (hK : gw_K G s) (hR : rB G A adr S X H0 H locs) {j : Nat} {x : Int32} (hj : j < 48) (hdg : decode cc pc = .ok (.iastore, 1)) (kk : ∀ (H1 : Heap) (locs1 : List Loc), rB G A adr (m2 S 10 j x) X H0 H1 locs1 → W p l e R s m args below meth c H1 locs1 cells slots Q (F0 m (pc + 1) ls (rest))) : W p l e R s m args below meth c H locs cells slots Q (F0 m pc ls (.int x :: .int (nI j) :: .ref (adr 10) :: rest)) := by
  refine gw_iast F hK hR 10 (N := 48) (f := S 10) rfl (vp_in_nI hj (by decide)) hdg (fun H1 locs1 hB => ?_)
  rw [nI_clamp (by omega)] at hB
  exact kk H1 locs1 (gw_B.to hB (rcel_S 10 (by decide) (by decide)))
theorem rg_11 (F : gw_F p m c cc s args RX7) (hK : gw_K G s) (hR : rB G A adr S X H0 H locs) (hdg : decode cc pc = .ok (.getfield 41, 3)) (kk : W p l e R s m args below meth c H locs cells slots Q (F0 m (pc + 3) ls (.ref (adr 11) :: rest))) : W p l e R s m args below meth c H locs cells slots Q (F0 m pc ls (.ref (adr 0) :: rest)) := gw_get F hK hR.1 0 rfl rfl inX7 11 (by decide) fl_X7_41 rfl hdg kk
theorem ri_11 (F : gw_F p m c cc s args RX7) (hK : gw_K G s) (hR : rB G A adr S X H0 H locs) {j : Nat} (hj : j < 1920) (hdg : decode cc pc = .ok (.iaload, 1)) (kk : W p l e R s m args below meth c H locs cells slots Q (F0 m (pc + 1) ls (.int (S 11 j) :: rest))) : W p l e R s m args below meth c H locs cells slots Q (F0 m pc ls (.int (nI j) :: .ref (adr 11) :: rest)) := by
  refine gw_iald F hK hR.1 11 (N := 1920) (f := S 11) rfl (vp_in_nI hj (by decide)) hdg ?_
  rw [nI_clamp (by omega)]
  exact kk
theorem rs_11 (F : gw_F p m c cc s args RX7) (hK : gw_K G s) (hR : rB G A adr S X H0 H locs) {j : Nat} {x : Int32} (hj : j < 1920) (hdg : decode cc pc = .ok (.iastore, 1)) (kk : ∀ (H1 : Heap) (locs1 : List Loc), rB G A adr (m2 S 11 j x) X H0 H1 locs1 → W p l e R s m args below meth c H1 locs1 cells slots Q (F0 m (pc + 1) ls (rest))) : W p l e R s m args below meth c H locs cells slots Q (F0 m pc ls (.int x :: .int (nI j) :: .ref (adr 11) :: rest)) := by
  refine gw_iast F hK hR 11 (N := 1920) (f := S 11) rfl (vp_in_nI hj (by decide)) hdg (fun H1 locs1 hB => ?_)
  rw [nI_clamp (by omega)] at hB
  exact kk H1 locs1 (gw_B.to hB (rcel_S 11 (by decide) (by decide)))
theorem rg_12 (F : gw_F p m c cc s args RX7) (hK : gw_K G s) (hR : rB G A adr S X H0 H locs) (hdg : decode cc pc = .ok (.getfield 44, 3)) (kk : W p l e R s m args below meth c H locs cells slots Q (F0 m (pc + 3) ls (.ref (adr 12) :: rest))) : W p l e R s m args below meth c H locs cells slots Q (F0 m pc ls (.ref (adr 0) :: rest)) := gw_get F hK hR.1 0 rfl rfl inX7 12 (by decide) fl_X7_44 rfl hdg kk
theorem ri_12 (F : gw_F p m c cc s args RX7) (hK : gw_K G s) (hR : rB G A adr S X H0 H locs) {j : Nat} (hj : j < 12) (hdg : decode cc pc = .ok (.iaload, 1)) (kk : W p l e R s m args below meth c H locs cells slots Q (F0 m (pc + 1) ls (.int (S 12 j) :: rest))) : W p l e R s m args below meth c H locs cells slots Q (F0 m pc ls (.int (nI j) :: .ref (adr 12) :: rest)) := by
  refine gw_iald F hK hR.1 12 (N := 12) (f := S 12) rfl (vp_in_nI hj (by decide)) hdg ?_
  rw [nI_clamp (by omega)]
  exact kk
theorem rs_12 (F : gw_F p m c cc s args RX7) (hK : gw_K G s) (hR : rB G A adr S X H0 H locs) {j : Nat} {x : Int32} (hj : j < 12) (hdg : decode cc pc = .ok (.iastore, 1)) (kk : ∀ (H1 : Heap) (locs1 : List Loc), rB G A adr (m2 S 12 j x) X H0 H1 locs1 → W p l e R s m args below meth c H1 locs1 cells slots Q (F0 m (pc + 1) ls (rest))) : W p l e R s m args below meth c H locs cells slots Q (F0 m pc ls (.int x :: .int (nI j) :: .ref (adr 12) :: rest)) := by
  refine gw_iast F hK hR 12 (N := 12) (f := S 12) rfl (vp_in_nI hj (by decide)) hdg (fun H1 locs1 hB => ?_)
  rw [nI_clamp (by omega)] at hB
  exact kk H1 locs1 (gw_B.to hB (rcel_S 12 (by decide) (by decide)))
theorem rg_13 (F : gw_F p m c cc s args RX7) (hK : gw_K G s) (hR : rB G A adr S X H0 H locs) (hdg : decode cc pc = .ok (.getfield 102, 3)) (kk : W p l e R s m args below meth c H locs cells slots Q (F0 m (pc + 3) ls (.int (S 13 0) :: rest))) : W p l e R s m args below meth c H locs cells slots Q (F0 m pc ls (.ref (adr 0) :: rest)) := gw_get F hK hR.1 0 rfl rfl inX7 13 (by decide) fl_X7_102 rfl hdg kk
theorem rp_13 (F : gw_F p m c cc s args RX7) (hK : gw_K G s) (hR : rB G A adr S X H0 H locs) {v : Int32} (hdg : decode cc pc = .ok (.putfield 102, 3)) (kk : ∀ (H1 : Heap) (locs1 : List Loc), rB G A adr (m2 S 13 0 v) X H0 H1 locs1 → W p l e R s m args below meth c H1 locs1 cells slots Q (F0 m (pc + 3) ls (rest))) : W p l e R s m args below meth c H locs cells slots Q (F0 m pc ls (.int v :: .ref (adr 0) :: rest)) := gw_put F hK hR 0 rfl rfl inX7 tyX7 tyX7_ok nmX7 13 (by decide) fl_X7_102 rfl (ty := .int) rfl rfl rfl (Nat.le_of_ble_eq_true rfl) hdg (fun H1 locs1 hB => kk H1 locs1 (gw_B.to hB rcel_p13))
theorem rg_14 (F : gw_F p m c cc s args RX7) (hK : gw_K G s) (hR : rB G A adr S X H0 H locs) (hdg : decode cc pc = .ok (.getfield 47, 3)) (kk : W p l e R s m args below meth c H locs cells slots Q (F0 m (pc + 3) ls (.ref (adr 14) :: rest))) : W p l e R s m args below meth c H locs cells slots Q (F0 m pc ls (.ref (adr 0) :: rest)) := gw_get F hK hR.1 0 rfl rfl inX7 14 (by decide) fl_X7_47 rfl hdg kk
theorem ri_14 (F : gw_F p m c cc s args RX7) (hK : gw_K G s) (hR : rB G A adr S X H0 H locs) {j : Nat} (hj : j < 60) (hdg : decode cc pc = .ok (.iaload, 1)) (kk : W p l e R s m args below meth c H locs cells slots Q (F0 m (pc + 1) ls (.int (S 14 j) :: rest))) : W p l e R s m args below meth c H locs cells slots Q (F0 m pc ls (.int (nI j) :: .ref (adr 14) :: rest)) := by
  refine gw_iald F hK hR.1 14 (N := 60) (f := S 14) rfl (vp_in_nI hj (by decide)) hdg ?_
  rw [nI_clamp (by omega)]
  exact kk
theorem rs_14 (F : gw_F p m c cc s args RX7) (hK : gw_K G s) (hR : rB G A adr S X H0 H locs) {j : Nat} {x : Int32} (hj : j < 60) (hdg : decode cc pc = .ok (.iastore, 1)) (kk : ∀ (H1 : Heap) (locs1 : List Loc), rB G A adr (m2 S 14 j x) X H0 H1 locs1 → W p l e R s m args below meth c H1 locs1 cells slots Q (F0 m (pc + 1) ls (rest))) : W p l e R s m args below meth c H locs cells slots Q (F0 m pc ls (.int x :: .int (nI j) :: .ref (adr 14) :: rest)) := by
  refine gw_iast F hK hR 14 (N := 60) (f := S 14) rfl (vp_in_nI hj (by decide)) hdg (fun H1 locs1 hB => ?_)
  rw [nI_clamp (by omega)] at hB
  exact kk H1 locs1 (gw_B.to hB (rcel_S 14 (by decide) (by decide)))
theorem rg_15 (F : gw_F p m c cc s args RX7) (hK : gw_K G s) (hR : rB G A adr S X H0 H locs) (hdg : decode cc pc = .ok (.getfield 50, 3)) (kk : W p l e R s m args below meth c H locs cells slots Q (F0 m (pc + 3) ls (.ref (adr 15) :: rest))) : W p l e R s m args below meth c H locs cells slots Q (F0 m pc ls (.ref (adr 0) :: rest)) := gw_get F hK hR.1 0 rfl rfl inX7 15 (by decide) fl_X7_50 rfl hdg kk
theorem ri_15 (F : gw_F p m c cc s args RX7) (hK : gw_K G s) (hR : rB G A adr S X H0 H locs) {j : Nat} (hj : j < 60) (hdg : decode cc pc = .ok (.iaload, 1)) (kk : W p l e R s m args below meth c H locs cells slots Q (F0 m (pc + 1) ls (.int (S 15 j) :: rest))) : W p l e R s m args below meth c H locs cells slots Q (F0 m pc ls (.int (nI j) :: .ref (adr 15) :: rest)) := by
  refine gw_iald F hK hR.1 15 (N := 60) (f := S 15) rfl (vp_in_nI hj (by decide)) hdg ?_
  rw [nI_clamp (by omega)]
  exact kk
theorem rs_15 (F : gw_F p m c cc s args RX7) (hK : gw_K G s) (hR : rB G A adr S X H0 H locs) {j : Nat} {x : Int32} (hj : j < 60) (hdg : decode cc pc = .ok (.iastore, 1)) (kk : ∀ (H1 : Heap) (locs1 : List Loc), rB G A adr (m2 S 15 j x) X H0 H1 locs1 → W p l e R s m args below meth c H1 locs1 cells slots Q (F0 m (pc + 1) ls (rest))) : W p l e R s m args below meth c H locs cells slots Q (F0 m pc ls (.int x :: .int (nI j) :: .ref (adr 15) :: rest)) := by
  refine gw_iast F hK hR 15 (N := 60) (f := S 15) rfl (vp_in_nI hj (by decide)) hdg (fun H1 locs1 hB => ?_)
  rw [nI_clamp (by omega)] at hB
  exact kk H1 locs1 (gw_B.to hB (rcel_S 15 (by decide) (by decide)))
theorem rg_16 (F : gw_F p m c cc s args RX7) (hK : gw_K G s) (hR : rB G A adr S X H0 H locs) (hdg : decode cc pc = .ok (.getfield 173, 3)) (kk : W p l e R s m args below meth c H locs cells slots Q (F0 m (pc + 3) ls (.int (S 16 0) :: rest))) : W p l e R s m args below meth c H locs cells slots Q (F0 m pc ls (.ref (adr 0) :: rest)) := gw_get F hK hR.1 0 rfl rfl inX7 16 (by decide) fl_X7_173 rfl hdg kk
theorem rp_16 (F : gw_F p m c cc s args RX7) (hK : gw_K G s) (hR : rB G A adr S X H0 H locs) {v : Int32} (hdg : decode cc pc = .ok (.putfield 173, 3)) (kk : ∀ (H1 : Heap) (locs1 : List Loc), rB G A adr (m2 S 16 0 v) X H0 H1 locs1 → W p l e R s m args below meth c H1 locs1 cells slots Q (F0 m (pc + 3) ls (rest))) : W p l e R s m args below meth c H locs cells slots Q (F0 m pc ls (.int v :: .ref (adr 0) :: rest)) := gw_put F hK hR 0 rfl rfl inX7 tyX7 tyX7_ok nmX7 16 (by decide) fl_X7_173 rfl (ty := .int) rfl rfl rfl (Nat.le_of_ble_eq_true rfl) hdg (fun H1 locs1 hB => kk H1 locs1 (gw_B.to hB rcel_p16))
theorem rg_17 (F : gw_F p m c cc s args RX7) (hK : gw_K G s) (hR : rB G A adr S X H0 H locs) (hdg : decode cc pc = .ok (.getfield 145, 3)) (kk : W p l e R s m args below meth c H locs cells slots Q (F0 m (pc + 3) ls (.int (S 17 0) :: rest))) : W p l e R s m args below meth c H locs cells slots Q (F0 m pc ls (.ref (adr 0) :: rest)) := gw_get F hK hR.1 0 rfl rfl inX7 17 (by decide) fl_X7_145 rfl hdg kk
theorem rp_17 (F : gw_F p m c cc s args RX7) (hK : gw_K G s) (hR : rB G A adr S X H0 H locs) {v : Int32} (hdg : decode cc pc = .ok (.putfield 145, 3)) (kk : ∀ (H1 : Heap) (locs1 : List Loc), rB G A adr (m2 S 17 0 v) X H0 H1 locs1 → W p l e R s m args below meth c H1 locs1 cells slots Q (F0 m (pc + 3) ls (rest))) : W p l e R s m args below meth c H locs cells slots Q (F0 m pc ls (.int v :: .ref (adr 0) :: rest)) := gw_put F hK hR 0 rfl rfl inX7 tyX7 tyX7_ok nmX7 17 (by decide) fl_X7_145 rfl (ty := .int) rfl rfl rfl (Nat.le_of_ble_eq_true rfl) hdg (fun H1 locs1 hB => kk H1 locs1 (gw_B.to hB rcel_p17))
theorem rg_18 (F : gw_F p m c cc s args RX7) (hK : gw_K G s) (hR : rB G A adr S X H0 H locs) (hdg : decode cc pc = .ok (.getfield 105, 3)) (kk : W p l e R s m args below meth c H locs cells slots Q (F0 m (pc + 3) ls (.int (S 18 0) :: rest))) : W p l e R s m args below meth c H locs cells slots Q (F0 m pc ls (.ref (adr 0) :: rest)) := gw_get F hK hR.1 0 rfl rfl inX7 18 (by decide) fl_X7_105 rfl hdg kk
theorem rp_18 (F : gw_F p m c cc s args RX7) (hK : gw_K G s) (hR : rB G A adr S X H0 H locs) {v : Int32} (hdg : decode cc pc = .ok (.putfield 105, 3)) (kk : ∀ (H1 : Heap) (locs1 : List Loc), rB G A adr (m2 S 18 0 v) X H0 H1 locs1 → W p l e R s m args below meth c H1 locs1 cells slots Q (F0 m (pc + 3) ls (rest))) : W p l e R s m args below meth c H locs cells slots Q (F0 m pc ls (.int v :: .ref (adr 0) :: rest)) := gw_put F hK hR 0 rfl rfl inX7 tyX7 tyX7_ok nmX7 18 (by decide) fl_X7_105 rfl (ty := .int) rfl rfl rfl (Nat.le_of_ble_eq_true rfl) hdg (fun H1 locs1 hB => kk H1 locs1 (gw_B.to hB rcel_p18))
theorem rg_19 (F : gw_F p m c cc s args RX7) (hK : gw_K G s) (hR : rB G A adr S X H0 H locs) (hdg : decode cc pc = .ok (.getfield 142, 3)) (kk : W p l e R s m args below meth c H locs cells slots Q (F0 m (pc + 3) ls (.int (X 19 0) :: rest))) : W p l e R s m args below meth c H locs cells slots Q (F0 m pc ls (.ref (adr 0) :: rest)) := gw_get F hK hR.1 0 rfl rfl inX7 19 (by decide) fl_X7_142 rfl hdg kk
theorem rp_19 (F : gw_F p m c cc s args RX7) (hK : gw_K G s) (hR : rB G A adr S X H0 H locs) {v : Int32} (hdg : decode cc pc = .ok (.putfield 142, 3)) (kk : ∀ (H1 : Heap) (locs1 : List Loc), rB G A adr S (m2 X 19 0 v) H0 H1 locs1 → W p l e R s m args below meth c H1 locs1 cells slots Q (F0 m (pc + 3) ls (rest))) : W p l e R s m args below meth c H locs cells slots Q (F0 m pc ls (.int v :: .ref (adr 0) :: rest)) := gw_put F hK hR 0 rfl rfl inX7 tyX7 tyX7_ok nmX7 19 (by decide) fl_X7_142 rfl (ty := .int) rfl rfl rfl (Nat.le_of_ble_eq_true rfl) hdg (fun H1 locs1 hB => kk H1 locs1 (gw_B.to hB rcel_p19))
theorem rg_20 (F : gw_F p m c cc s args RX7) (hK : gw_K G s) (hR : rB G A adr S X H0 H locs) (hdg : decode cc pc = .ok (.getfield 53, 3)) (kk : W p l e R s m args below meth c H locs cells slots Q (F0 m (pc + 3) ls (.int (X 20 0) :: rest))) : W p l e R s m args below meth c H locs cells slots Q (F0 m pc ls (.ref (adr 0) :: rest)) := gw_get F hK hR.1 0 rfl rfl inX7 20 (by decide) fl_X7_53 rfl hdg kk
theorem rp_20 (F : gw_F p m c cc s args RX7) (hK : gw_K G s) (hR : rB G A adr S X H0 H locs) {v : Int32} (hdg : decode cc pc = .ok (.putfield 53, 3)) (kk : ∀ (H1 : Heap) (locs1 : List Loc), rB G A adr S (m2 X 20 0 v) H0 H1 locs1 → W p l e R s m args below meth c H1 locs1 cells slots Q (F0 m (pc + 3) ls (rest))) : W p l e R s m args below meth c H locs cells slots Q (F0 m pc ls (.int v :: .ref (adr 0) :: rest)) := gw_put F hK hR 0 rfl rfl inX7 tyX7 tyX7_ok nmX7 20 (by decide) fl_X7_53 rfl (ty := .int) rfl rfl rfl (Nat.le_of_ble_eq_true rfl) hdg (fun H1 locs1 hB => kk H1 locs1 (gw_B.to hB rcel_p20))
theorem rg_21 (F : gw_F p m c cc s args RX7) (hK : gw_K G s) (hR : rB G A adr S X H0 H locs) (hdg : decode cc pc = .ok (.getfield 126, 3)) (kk : W p l e R s m args below meth c H locs cells slots Q (F0 m (pc + 3) ls (.int (X 21 0) :: rest))) : W p l e R s m args below meth c H locs cells slots Q (F0 m pc ls (.ref (adr 0) :: rest)) := gw_get F hK hR.1 0 rfl rfl inX7 21 (by decide) fl_X7_126 rfl hdg kk
theorem rp_21 (F : gw_F p m c cc s args RX7) (hK : gw_K G s) (hR : rB G A adr S X H0 H locs) {v : Int32} (hdg : decode cc pc = .ok (.putfield 126, 3)) (kk : ∀ (H1 : Heap) (locs1 : List Loc), rB G A adr S (m2 X 21 0 v) H0 H1 locs1 → W p l e R s m args below meth c H1 locs1 cells slots Q (F0 m (pc + 3) ls (rest))) : W p l e R s m args below meth c H locs cells slots Q (F0 m pc ls (.int v :: .ref (adr 0) :: rest)) := gw_put F hK hR 0 rfl rfl inX7 tyX7 tyX7_ok nmX7 21 (by decide) fl_X7_126 rfl (ty := .int) rfl rfl rfl (Nat.le_of_ble_eq_true rfl) hdg (fun H1 locs1 hB => kk H1 locs1 (gw_B.to hB rcel_p21))
theorem rg_22 (F : gw_F p m c cc s args RX7) (hK : gw_K G s) (hR : rB G A adr S X H0 H locs) (hdg : decode cc pc = .ok (.getfield 108, 3)) (kk : W p l e R s m args below meth c H locs cells slots Q (F0 m (pc + 3) ls (.int (X 22 0) :: rest))) : W p l e R s m args below meth c H locs cells slots Q (F0 m pc ls (.ref (adr 0) :: rest)) := gw_get F hK hR.1 0 rfl rfl inX7 22 (by decide) fl_X7_108 rfl hdg kk
theorem rp_22 (F : gw_F p m c cc s args RX7) (hK : gw_K G s) (hR : rB G A adr S X H0 H locs) {v : Int32} (hdg : decode cc pc = .ok (.putfield 108, 3)) (kk : ∀ (H1 : Heap) (locs1 : List Loc), rB G A adr S (m2 X 22 0 v) H0 H1 locs1 → W p l e R s m args below meth c H1 locs1 cells slots Q (F0 m (pc + 3) ls (rest))) : W p l e R s m args below meth c H locs cells slots Q (F0 m pc ls (.int v :: .ref (adr 0) :: rest)) := gw_put F hK hR 0 rfl rfl inX7 tyX7 tyX7_ok nmX7 22 (by decide) fl_X7_108 rfl (ty := .int) rfl rfl rfl (Nat.le_of_ble_eq_true rfl) hdg (fun H1 locs1 hB => kk H1 locs1 (gw_B.to hB rcel_p22))
theorem rg_23 (F : gw_F p m c cc s args RX7) (hK : gw_K G s) (hR : rB G A adr S X H0 H locs) (hdg : decode cc pc = .ok (.getfield 57, 3)) (kk : W p l e R s m args below meth c H locs cells slots Q (F0 m (pc + 3) ls (.ref (adr 23) :: rest))) : W p l e R s m args below meth c H locs cells slots Q (F0 m pc ls (.ref (adr 0) :: rest)) := gw_get F hK hR.1 0 rfl rfl inX7 23 (by decide) fl_X7_57 rfl hdg kk
theorem ri_23 (F : gw_F p m c cc s args RX7) (hK : gw_K G s) (hR : rB G A adr S X H0 H locs) {j : Nat} (hj : j < 300) (hdg : decode cc pc = .ok (.iaload, 1)) (kk : W p l e R s m args below meth c H locs cells slots Q (F0 m (pc + 1) ls (.int (X 23 j) :: rest))) : W p l e R s m args below meth c H locs cells slots Q (F0 m pc ls (.int (nI j) :: .ref (adr 23) :: rest)) := by
  refine gw_iald F hK hR.1 23 (N := 300) (f := X 23) rfl (vp_in_nI hj (by decide)) hdg ?_
  rw [nI_clamp (by omega)]
  exact kk
theorem rs_23 (F : gw_F p m c cc s args RX7) (hK : gw_K G s) (hR : rB G A adr S X H0 H locs) {j : Nat} {x : Int32} (hj : j < 300) (hdg : decode cc pc = .ok (.iastore, 1)) (kk : ∀ (H1 : Heap) (locs1 : List Loc), rB G A adr S (m2 X 23 j x) H0 H1 locs1 → W p l e R s m args below meth c H1 locs1 cells slots Q (F0 m (pc + 1) ls (rest))) : W p l e R s m args below meth c H locs cells slots Q (F0 m pc ls (.int x :: .int (nI j) :: .ref (adr 23) :: rest)) := by
  refine gw_iast F hK hR 23 (N := 300) (f := X 23) rfl (vp_in_nI hj (by decide)) hdg (fun H1 locs1 hB => ?_)
  rw [nI_clamp (by omega)] at hB
  exact kk H1 locs1 (gw_B.to hB (rcel_X 23 (by decide) (by decide)))
theorem rg_24 (F : gw_F p m c cc s args RX7) (hK : gw_K G s) (hR : rB G A adr S X H0 H locs) (hdg : decode cc pc = .ok (.getfield 60, 3)) (kk : W p l e R s m args below meth c H locs cells slots Q (F0 m (pc + 3) ls (.ref (adr 24) :: rest))) : W p l e R s m args below meth c H locs cells slots Q (F0 m pc ls (.ref (adr 0) :: rest)) := gw_get F hK hR.1 0 rfl rfl inX7 24 (by decide) fl_X7_60 rfl hdg kk
theorem ri_24 (F : gw_F p m c cc s args RX7) (hK : gw_K G s) (hR : rB G A adr S X H0 H locs) {j : Nat} (hj : j < 300) (hdg : decode cc pc = .ok (.iaload, 1)) (kk : W p l e R s m args below meth c H locs cells slots Q (F0 m (pc + 1) ls (.int (X 24 j) :: rest))) : W p l e R s m args below meth c H locs cells slots Q (F0 m pc ls (.int (nI j) :: .ref (adr 24) :: rest)) := by
  refine gw_iald F hK hR.1 24 (N := 300) (f := X 24) rfl (vp_in_nI hj (by decide)) hdg ?_
  rw [nI_clamp (by omega)]
  exact kk
theorem rs_24 (F : gw_F p m c cc s args RX7) (hK : gw_K G s) (hR : rB G A adr S X H0 H locs) {j : Nat} {x : Int32} (hj : j < 300) (hdg : decode cc pc = .ok (.iastore, 1)) (kk : ∀ (H1 : Heap) (locs1 : List Loc), rB G A adr S (m2 X 24 j x) H0 H1 locs1 → W p l e R s m args below meth c H1 locs1 cells slots Q (F0 m (pc + 1) ls (rest))) : W p l e R s m args below meth c H locs cells slots Q (F0 m pc ls (.int x :: .int (nI j) :: .ref (adr 24) :: rest)) := by
  refine gw_iast F hK hR 24 (N := 300) (f := X 24) rfl (vp_in_nI hj (by decide)) hdg (fun H1 locs1 hB => ?_)
  rw [nI_clamp (by omega)] at hB
  exact kk H1 locs1 (gw_B.to hB (rcel_X 24 (by decide) (by decide)))
theorem rg_25 (F : gw_F p m c cc s args RX7) (hK : gw_K G s) (hR : rB G A adr S X H0 H locs) (hdg : decode cc pc = .ok (.getfield 63, 3)) (kk : W p l e R s m args below meth c H locs cells slots Q (F0 m (pc + 3) ls (.ref (adr 25) :: rest))) : W p l e R s m args below meth c H locs cells slots Q (F0 m pc ls (.ref (adr 0) :: rest)) := gw_get F hK hR.1 0 rfl rfl inX7 25 (by decide) fl_X7_63 rfl hdg kk
theorem ri_25 (F : gw_F p m c cc s args RX7) (hK : gw_K G s) (hR : rB G A adr S X H0 H locs) {j : Nat} (hj : j < 300) (hdg : decode cc pc = .ok (.iaload, 1)) (kk : W p l e R s m args below meth c H locs cells slots Q (F0 m (pc + 1) ls (.int (X 25 j) :: rest))) : W p l e R s m args below meth c H locs cells slots Q (F0 m pc ls (.int (nI j) :: .ref (adr 25) :: rest)) := by
  refine gw_iald F hK hR.1 25 (N := 300) (f := X 25) rfl (vp_in_nI hj (by decide)) hdg ?_
  rw [nI_clamp (by omega)]
  exact kk
theorem rs_25 (F : gw_F p m c cc s args RX7) (hK : gw_K G s) (hR : rB G A adr S X H0 H locs) {j : Nat} {x : Int32} (hj : j < 300) (hdg : decode cc pc = .ok (.iastore, 1)) (kk : ∀ (H1 : Heap) (locs1 : List Loc), rB G A adr S (m2 X 25 j x) H0 H1 locs1 → W p l e R s m args below meth c H1 locs1 cells slots Q (F0 m (pc + 1) ls (rest))) : W p l e R s m args below meth c H locs cells slots Q (F0 m pc ls (.int x :: .int (nI j) :: .ref (adr 25) :: rest)) := by
  refine gw_iast F hK hR 25 (N := 300) (f := X 25) rfl (vp_in_nI hj (by decide)) hdg (fun H1 locs1 hB => ?_)
  rw [nI_clamp (by omega)] at hB
  exact kk H1 locs1 (gw_B.to hB (rcel_X 25 (by decide) (by decide)))
theorem rg_26 (F : gw_F p m c cc s args RX7) (hK : gw_K G s) (hR : rB G A adr S X H0 H locs) (hdg : decode cc pc = .ok (.getfield 66, 3)) (kk : W p l e R s m args below meth c H locs cells slots Q (F0 m (pc + 3) ls (.ref (adr 26) :: rest))) : W p l e R s m args below meth c H locs cells slots Q (F0 m pc ls (.ref (adr 0) :: rest)) := gw_get F hK hR.1 0 rfl rfl inX7 26 (by decide) fl_X7_66 rfl hdg kk
theorem ri_26 (F : gw_F p m c cc s args RX7) (hK : gw_K G s) (hR : rB G A adr S X H0 H locs) {j : Nat} (hj : j < 300) (hdg : decode cc pc = .ok (.iaload, 1)) (kk : W p l e R s m args below meth c H locs cells slots Q (F0 m (pc + 1) ls (.int (X 26 j) :: rest))) : W p l e R s m args below meth c H locs cells slots Q (F0 m pc ls (.int (nI j) :: .ref (adr 26) :: rest)) := by
  refine gw_iald F hK hR.1 26 (N := 300) (f := X 26) rfl (vp_in_nI hj (by decide)) hdg ?_
  rw [nI_clamp (by omega)]
  exact kk
theorem rs_26 (F : gw_F p m c cc s args RX7) (hK : gw_K G s) (hR : rB G A adr S X H0 H locs) {j : Nat} {x : Int32} (hj : j < 300) (hdg : decode cc pc = .ok (.iastore, 1)) (kk : ∀ (H1 : Heap) (locs1 : List Loc), rB G A adr S (m2 X 26 j x) H0 H1 locs1 → W p l e R s m args below meth c H1 locs1 cells slots Q (F0 m (pc + 1) ls (rest))) : W p l e R s m args below meth c H locs cells slots Q (F0 m pc ls (.int x :: .int (nI j) :: .ref (adr 26) :: rest)) := by
  refine gw_iast F hK hR 26 (N := 300) (f := X 26) rfl (vp_in_nI hj (by decide)) hdg (fun H1 locs1 hB => ?_)
  rw [nI_clamp (by omega)] at hB
  exact kk H1 locs1 (gw_B.to hB (rcel_X 26 (by decide) (by decide)))
theorem rg_27 (F : gw_F p m c cc s args RX7) (hK : gw_K G s) (hR : rB G A adr S X H0 H locs) (hdg : decode cc pc = .ok (.getfield 69, 3)) (kk : W p l e R s m args below meth c H locs cells slots Q (F0 m (pc + 3) ls (.ref (adr 27) :: rest))) : W p l e R s m args below meth c H locs cells slots Q (F0 m pc ls (.ref (adr 0) :: rest)) := gw_get F hK hR.1 0 rfl rfl inX7 27 (by decide) fl_X7_69 rfl hdg kk
theorem ri_27 (F : gw_F p m c cc s args RX7) (hK : gw_K G s) (hR : rB G A adr S X H0 H locs) {j : Nat} (hj : j < 300) (hdg : decode cc pc = .ok (.iaload, 1)) (kk : W p l e R s m args below meth c H locs cells slots Q (F0 m (pc + 1) ls (.int (X 27 j) :: rest))) : W p l e R s m args below meth c H locs cells slots Q (F0 m pc ls (.int (nI j) :: .ref (adr 27) :: rest)) := by
  refine gw_iald F hK hR.1 27 (N := 300) (f := X 27) rfl (vp_in_nI hj (by decide)) hdg ?_
  rw [nI_clamp (by omega)]
  exact kk
theorem rs_27 (F : gw_F p m c cc s args RX7) (hK : gw_K G s) (hR : rB G A adr S X H0 H locs) {j : Nat} {x : Int32} (hj : j < 300) (hdg : decode cc pc = .ok (.iastore, 1)) (kk : ∀ (H1 : Heap) (locs1 : List Loc), rB G A adr S (m2 X 27 j x) H0 H1 locs1 → W p l e R s m args below meth c H1 locs1 cells slots Q (F0 m (pc + 1) ls (rest))) : W p l e R s m args below meth c H locs cells slots Q (F0 m pc ls (.int x :: .int (nI j) :: .ref (adr 27) :: rest)) := by
  refine gw_iast F hK hR 27 (N := 300) (f := X 27) rfl (vp_in_nI hj (by decide)) hdg (fun H1 locs1 hB => ?_)
  rw [nI_clamp (by omega)] at hB
  exact kk H1 locs1 (gw_B.to hB (rcel_X 27 (by decide) (by decide)))
theorem rg_28 (F : gw_F p m c cc s args RX7) (hK : gw_K G s) (hR : rB G A adr S X H0 H locs) (hdg : decode cc pc = .ok (.getfield 72, 3)) (kk : W p l e R s m args below meth c H locs cells slots Q (F0 m (pc + 3) ls (.ref (adr 28) :: rest))) : W p l e R s m args below meth c H locs cells slots Q (F0 m pc ls (.ref (adr 0) :: rest)) := gw_get F hK hR.1 0 rfl rfl inX7 28 (by decide) fl_X7_72 rfl hdg kk
theorem ri_28 (F : gw_F p m c cc s args RX7) (hK : gw_K G s) (hR : rB G A adr S X H0 H locs) {j : Nat} (hj : j < 300) (hdg : decode cc pc = .ok (.iaload, 1)) (kk : W p l e R s m args below meth c H locs cells slots Q (F0 m (pc + 1) ls (.int (X 28 j) :: rest))) : W p l e R s m args below meth c H locs cells slots Q (F0 m pc ls (.int (nI j) :: .ref (adr 28) :: rest)) := by
  refine gw_iald F hK hR.1 28 (N := 300) (f := X 28) rfl (vp_in_nI hj (by decide)) hdg ?_
  rw [nI_clamp (by omega)]
  exact kk
theorem rs_28 (F : gw_F p m c cc s args RX7) (hK : gw_K G s) (hR : rB G A adr S X H0 H locs) {j : Nat} {x : Int32} (hj : j < 300) (hdg : decode cc pc = .ok (.iastore, 1)) (kk : ∀ (H1 : Heap) (locs1 : List Loc), rB G A adr S (m2 X 28 j x) H0 H1 locs1 → W p l e R s m args below meth c H1 locs1 cells slots Q (F0 m (pc + 1) ls (rest))) : W p l e R s m args below meth c H locs cells slots Q (F0 m pc ls (.int x :: .int (nI j) :: .ref (adr 28) :: rest)) := by
  refine gw_iast F hK hR 28 (N := 300) (f := X 28) rfl (vp_in_nI hj (by decide)) hdg (fun H1 locs1 hB => ?_)
  rw [nI_clamp (by omega)] at hB
  exact kk H1 locs1 (gw_B.to hB (rcel_X 28 (by decide) (by decide)))
theorem rg_29 (F : gw_F p m c cc s args RX7) (hK : gw_K G s) (hR : rB G A adr S X H0 H locs) (hdg : decode cc pc = .ok (.getfield 75, 3)) (kk : W p l e R s m args below meth c H locs cells slots Q (F0 m (pc + 3) ls (.ref (adr 29) :: rest))) : W p l e R s m args below meth c H locs cells slots Q (F0 m pc ls (.ref (adr 0) :: rest)) := gw_get F hK hR.1 0 rfl rfl inX7 29 (by decide) fl_X7_75 rfl hdg kk
theorem ri_29 (F : gw_F p m c cc s args RX7) (hK : gw_K G s) (hR : rB G A adr S X H0 H locs) {j : Nat} (hj : j < 3000) (hdg : decode cc pc = .ok (.iaload, 1)) (kk : W p l e R s m args below meth c H locs cells slots Q (F0 m (pc + 1) ls (.int (X 29 j) :: rest))) : W p l e R s m args below meth c H locs cells slots Q (F0 m pc ls (.int (nI j) :: .ref (adr 29) :: rest)) := by
  refine gw_iald F hK hR.1 29 (N := 3000) (f := X 29) rfl (vp_in_nI hj (by decide)) hdg ?_
  rw [nI_clamp (by omega)]
  exact kk
theorem rs_29 (F : gw_F p m c cc s args RX7) (hK : gw_K G s) (hR : rB G A adr S X H0 H locs) {j : Nat} {x : Int32} (hj : j < 3000) (hdg : decode cc pc = .ok (.iastore, 1)) (kk : ∀ (H1 : Heap) (locs1 : List Loc), rB G A adr S (m2 X 29 j x) H0 H1 locs1 → W p l e R s m args below meth c H1 locs1 cells slots Q (F0 m (pc + 1) ls (rest))) : W p l e R s m args below meth c H locs cells slots Q (F0 m pc ls (.int x :: .int (nI j) :: .ref (adr 29) :: rest)) := by
  refine gw_iast F hK hR 29 (N := 3000) (f := X 29) rfl (vp_in_nI hj (by decide)) hdg (fun H1 locs1 hB => ?_)
  rw [nI_clamp (by omega)] at hB
  exact kk H1 locs1 (gw_B.to hB (rcel_X 29 (by decide) (by decide)))
theorem rg_30 (F : gw_F p m c cc s args RX7) (hK : gw_K G s) (hR : rB G A adr S X H0 H locs) (hdg : decode cc pc = .ok (.getfield 78, 3)) (kk : W p l e R s m args below meth c H locs cells slots Q (F0 m (pc + 3) ls (.ref (adr 30) :: rest))) : W p l e R s m args below meth c H locs cells slots Q (F0 m pc ls (.ref (adr 0) :: rest)) := gw_get F hK hR.1 0 rfl rfl inX7 30 (by decide) fl_X7_78 rfl hdg kk
theorem ri_30 (F : gw_F p m c cc s args RX7) (hK : gw_K G s) (hR : rB G A adr S X H0 H locs) {j : Nat} (hj : j < 3000) (hdg : decode cc pc = .ok (.iaload, 1)) (kk : W p l e R s m args below meth c H locs cells slots Q (F0 m (pc + 1) ls (.int (X 30 j) :: rest))) : W p l e R s m args below meth c H locs cells slots Q (F0 m pc ls (.int (nI j) :: .ref (adr 30) :: rest)) := by
  refine gw_iald F hK hR.1 30 (N := 3000) (f := X 30) rfl (vp_in_nI hj (by decide)) hdg ?_
  rw [nI_clamp (by omega)]
  exact kk
theorem rs_30 (F : gw_F p m c cc s args RX7) (hK : gw_K G s) (hR : rB G A adr S X H0 H locs) {j : Nat} {x : Int32} (hj : j < 3000) (hdg : decode cc pc = .ok (.iastore, 1)) (kk : ∀ (H1 : Heap) (locs1 : List Loc), rB G A adr S (m2 X 30 j x) H0 H1 locs1 → W p l e R s m args below meth c H1 locs1 cells slots Q (F0 m (pc + 1) ls (rest))) : W p l e R s m args below meth c H locs cells slots Q (F0 m pc ls (.int x :: .int (nI j) :: .ref (adr 30) :: rest)) := by
  refine gw_iast F hK hR 30 (N := 3000) (f := X 30) rfl (vp_in_nI hj (by decide)) hdg (fun H1 locs1 hB => ?_)
  rw [nI_clamp (by omega)] at hB
  exact kk H1 locs1 (gw_B.to hB (rcel_X 30 (by decide) (by decide)))
theorem rg_31 (F : gw_F p m c cc s args RX7) (hK : gw_K G s) (hR : rB G A adr S X H0 H locs) (hdg : decode cc pc = .ok (.getfield 115, 3)) (kk : W p l e R s m args below meth c H locs cells slots Q (F0 m (pc + 3) ls (.int (X 31 0) :: rest))) : W p l e R s m args below meth c H locs cells slots Q (F0 m pc ls (.ref (adr 0) :: rest)) := gw_get F hK hR.1 0 rfl rfl inX7 31 (by decide) fl_X7_115 rfl hdg kk
theorem rp_31 (F : gw_F p m c cc s args RX7) (hK : gw_K G s) (hR : rB G A adr S X H0 H locs) {v : Int32} (hdg : decode cc pc = .ok (.putfield 115, 3)) (kk : ∀ (H1 : Heap) (locs1 : List Loc), rB G A adr S (m2 X 31 0 v) H0 H1 locs1 → W p l e R s m args below meth c H1 locs1 cells slots Q (F0 m (pc + 3) ls (rest))) : W p l e R s m args below meth c H locs cells slots Q (F0 m pc ls (.int v :: .ref (adr 0) :: rest)) := gw_put F hK hR 0 rfl rfl inX7 tyX7 tyX7_ok nmX7 31 (by decide) fl_X7_115 rfl (ty := .int) rfl rfl rfl (Nat.le_of_ble_eq_true rfl) hdg (fun H1 locs1 hB => kk H1 locs1 (gw_B.to hB rcel_p31))
theorem rg_32 (F : gw_F p m c cc s args RX7) (hK : gw_K G s) (hR : rB G A adr S X H0 H locs) (hdg : decode cc pc = .ok (.getfield 182, 3)) (kk : W p l e R s m args below meth c H locs cells slots Q (F0 m (pc + 3) ls (.int (X 32 0) :: rest))) : W p l e R s m args below meth c H locs cells slots Q (F0 m pc ls (.ref (adr 0) :: rest)) := gw_get F hK hR.1 0 rfl rfl inX7 32 (by decide) fl_X7_182 rfl hdg kk
theorem rp_32 (F : gw_F p m c cc s args RX7) (hK : gw_K G s) (hR : rB G A adr S X H0 H locs) {v : Int32} (hdg : decode cc pc = .ok (.putfield 182, 3)) (kk : ∀ (H1 : Heap) (locs1 : List Loc), rB G A adr S (m2 X 32 0 v) H0 H1 locs1 → W p l e R s m args below meth c H1 locs1 cells slots Q (F0 m (pc + 3) ls (rest))) : W p l e R s m args below meth c H locs cells slots Q (F0 m pc ls (.int v :: .ref (adr 0) :: rest)) := gw_put F hK hR 0 rfl rfl inX7 tyX7 tyX7_ok nmX7 32 (by decide) fl_X7_182 rfl (ty := .int) rfl rfl rfl (Nat.le_of_ble_eq_true rfl) hdg (fun H1 locs1 hB => kk H1 locs1 (gw_B.to hB rcel_p32))
theorem rg_33 (F : gw_F p m c cc s args RX7) (hK : gw_K G s) (hR : rB G A adr S X H0 H locs) (hdg : decode cc pc = .ok (.getfield 81, 3)) (kk : W p l e R s m args below meth c H locs cells slots Q (F0 m (pc + 3) ls (.ref (adr 33) :: rest))) : W p l e R s m args below meth c H locs cells slots Q (F0 m pc ls (.ref (adr 0) :: rest)) := gw_get F hK hR.1 0 rfl rfl inX7 33 (by decide) fl_X7_81 rfl hdg kk
theorem ri_33 (F : gw_F p m c cc s args RX7) (hK : gw_K G s) (hR : rB G A adr S X H0 H locs) {j : Nat} (hj : j < 48) (hdg : decode cc pc = .ok (.baload, 1)) (kk : W p l e R s m args below meth c H locs cells slots Q (F0 m (pc + 1) ls (.int (X 33 j) :: rest))) : W p l e R s m args below meth c H locs cells slots Q (F0 m pc ls (.int (nI j) :: .ref (adr 33) :: rest)) := by
  refine gw_zald F hK hR.1 33 (N := 48) (f := X 33) rfl (vp_in_nI hj (by decide)) hdg ?_
  rw [nI_clamp (by omega)]
  exact kk
theorem rs_33 (F : gw_F p m c cc s args RX7) (hK : gw_K G s) (hR : rB G A adr S X H0 H locs) {j : Nat} {x : Int32} (hj : j < 48) (hx : x = 0 ∨ x = 1) (hdg : decode cc pc = .ok (.bastore, 1)) (kk : ∀ (H1 : Heap) (locs1 : List Loc), rB G A adr S (m2 X 33 j x) H0 H1 locs1 → W p l e R s m args below meth c H1 locs1 cells slots Q (F0 m (pc + 1) ls (rest))) : W p l e R s m args below meth c H locs cells slots Q (F0 m pc ls (.int x :: .int (nI j) :: .ref (adr 33) :: rest)) := by
  refine gw_zast F hK hR 33 (N := 48) (f := X 33) rfl (vp_in_nI hj (by decide)) hdg (fun H1 locs1 hB => ?_)
  rw [nb_b hx, nI_clamp (by omega)] at hB
  exact kk H1 locs1 (gw_B.to hB (rcel_X 33 (by decide) (by decide)))
end RW
