/-! THE CLASS: rows of its cells -/
theorem kcel_hi {G : gw_G} {adr : Nat → Nat} {S : Nat → Nat → Int32} {k i x j : Nat} {v : Int32} (hk : 13 ≤ k) : kcel G adr (m2 S k i v) x j = kcel G adr S x j :=
  kcel_eq (m2_nk (by omega)) (m2_nk (by omega)) (m2_nk (by omega)) (m2_nk (by omega)) (m2_ne (by omega)) (fun _ => by rw [m2_ne (show 6 ≠ k by omega)]) (fun _ => by rw [m2_ne (show 7 ≠ k by omega)]) (fun _ => m2_nk (by omega)) (fun _ => by rw [m2_ne (show 9 ≠ k by omega)]) (m2_ne (by omega)) (m2_ne (by omega)) (fun _ => m2_nk (by omega))
theorem kc_m {G : gw_G} {adr : Nat → Nat} {S : Nat → Nat → Int32} {x q : Nat} (hq : q < 4) : kcel G adr S x (6 + q) = some (.inr (4, mfs adr S x q)) := by
  unfold kcel
  rw [if_neg (by omega), if_neg (by omega), if_neg (by omega), if_neg (by omega), if_neg (by omega), if_neg (by omega), if_pos (by omega), Nat.add_sub_cancel_left]
theorem kc_a {G : gw_G} {adr : Nat → Nat} {S : Nat → Nat → Int32} {x q : Nat} (hq : q < 4) : kcel G adr S x (10 + q) = some (.inl (G.2 2, 10, qr (acR adr S x q))) := by
  unfold kcel
  rw [if_neg (by omega), if_neg (by omega), if_neg (by omega), if_neg (by omega), if_neg (by omega), if_neg (by omega), if_neg (by omega), if_pos (by omega), Nat.add_sub_cancel_left]
theorem kc_t {G : gw_G} {adr : Nat → Nat} {S : Nat → Nat → Int32} {x q i ac : Nat} (hq : q < 4) (hac : S 10 (4 * x + q) = nI ac) (hi : i < ac) (h10 : ac ≤ 10) : kcel G adr S x (14 + 10 * q + i) = some (.inr (0, afs adr S x q i)) := by
  unfold kcel
  have e1 : (14 + 10 * q + i - 14) / 10 = q := by omega
  have e2 : (14 + 10 * q + i - 14) % 10 = i := by omega
  rw [if_neg (by omega), if_neg (by omega), if_neg (by omega), if_neg (by omega), if_neg (by omega), if_neg (by omega), if_neg (by omega), if_neg (by omega), e1, e2, hac, nI_clamp (by omega), if_pos ⟨by omega, hi⟩]
theorem jc_S13 {G : gw_G} {adr : Nat → Nat} {n : Nat} {S Y : Nat → Nat → Int32} {L : Int64} {v : Int32} : va_up (ccel G adr n S Y L) 3 (some (.inr (1, (jfs adr S Y).set 2 (.int v)))) = ccel G adr n (m2 S 13 0 v) Y L := by
  funext a
  by_cases ha : a = 3
  · subst ha
    simp [va_up, ccel, jfs, rfl5, ofs, m2, List.set]
  · simp only [va_up, if_neg ha]
    match a, ha with
    | 0, _ => first | rfl | simp [ccel, jfs, rfl5, ofs, m2]
    | 1, _ => first | rfl | simp [ccel, jfs, rfl5, ofs, m2]
    | 2, _ => first | rfl | simp [ccel, jfs, rfl5, ofs, m2]
    | 3, ha => exact absurd rfl ha
    | 4, _ => first | rfl | simp [ccel, jfs, rfl5, ofs, m2]
    | 5, _ => first | rfl | simp [ccel, jfs, rfl5, ofs, m2]
    | 6, _ => first | rfl | simp [ccel, jfs, rfl5, ofs, m2]
    | 7, _ => first | rfl | simp [ccel, jfs, rfl5, ofs, m2]
    | b + 8, _ => simp only [ccel, kcel_hi (show 13 ≤ 13 by decide)]
theorem jc_S16 {G : gw_G} {adr : Nat → Nat} {n : Nat} {S Y : Nat → Nat → Int32} {L : Int64} {v : Int32} : va_up (ccel G adr n S Y L) 3 (some (.inr (1, (jfs adr S Y).set 3 (.int v)))) = ccel G adr n (m2 S 16 0 v) Y L := by
  funext a
  by_cases ha : a = 3
  · subst ha
    simp [va_up, ccel, jfs, rfl5, ofs, m2, List.set]
  · simp only [va_up, if_neg ha]
    match a, ha with
    | 0, _ => first | rfl | simp [ccel, jfs, rfl5, ofs, m2]
    | 1, _ => first | rfl | simp [ccel, jfs, rfl5, ofs, m2]
    | 2, _ => first | rfl | simp [ccel, jfs, rfl5, ofs, m2]
    | 3, ha => exact absurd rfl ha
    | 4, _ => first | rfl | simp [ccel, jfs, rfl5, ofs, m2]
    | 5, _ => first | rfl | simp [ccel, jfs, rfl5, ofs, m2]
    | 6, _ => first | rfl | simp [ccel, jfs, rfl5, ofs, m2]
    | 7, _ => first | rfl | simp [ccel, jfs, rfl5, ofs, m2]
    | b + 8, _ => simp only [ccel, kcel_hi (show 13 ≤ 16 by decide)]
theorem jc_S17 {G : gw_G} {adr : Nat → Nat} {n : Nat} {S Y : Nat → Nat → Int32} {L : Int64} {v : Int32} : va_up (ccel G adr n S Y L) 3 (some (.inr (1, (jfs adr S Y).set 4 (.int v)))) = ccel G adr n (m2 S 17 0 v) Y L := by
  funext a
  by_cases ha : a = 3
  · subst ha
    simp [va_up, ccel, jfs, rfl5, ofs, m2, List.set]
  · simp only [va_up, if_neg ha]
    match a, ha with
    | 0, _ => first | rfl | simp [ccel, jfs, rfl5, ofs, m2]
    | 1, _ => first | rfl | simp [ccel, jfs, rfl5, ofs, m2]
    | 2, _ => first | rfl | simp [ccel, jfs, rfl5, ofs, m2]
    | 3, ha => exact absurd rfl ha
    | 4, _ => first | rfl | simp [ccel, jfs, rfl5, ofs, m2]
    | 5, _ => first | rfl | simp [ccel, jfs, rfl5, ofs, m2]
    | 6, _ => first | rfl | simp [ccel, jfs, rfl5, ofs, m2]
    | 7, _ => first | rfl | simp [ccel, jfs, rfl5, ofs, m2]
    | b + 8, _ => simp only [ccel, kcel_hi (show 13 ≤ 17 by decide)]
theorem jc_S18 {G : gw_G} {adr : Nat → Nat} {n : Nat} {S Y : Nat → Nat → Int32} {L : Int64} {v : Int32} : va_up (ccel G adr n S Y L) 3 (some (.inr (1, (jfs adr S Y).set 5 (.int v)))) = ccel G adr n (m2 S 18 0 v) Y L := by
  funext a
  by_cases ha : a = 3
  · subst ha
    simp [va_up, ccel, jfs, rfl5, ofs, m2, List.set]
  · simp only [va_up, if_neg ha]
    match a, ha with
    | 0, _ => first | rfl | simp [ccel, jfs, rfl5, ofs, m2]
    | 1, _ => first | rfl | simp [ccel, jfs, rfl5, ofs, m2]
    | 2, _ => first | rfl | simp [ccel, jfs, rfl5, ofs, m2]
    | 3, ha => exact absurd rfl ha
    | 4, _ => first | rfl | simp [ccel, jfs, rfl5, ofs, m2]
    | 5, _ => first | rfl | simp [ccel, jfs, rfl5, ofs, m2]
    | 6, _ => first | rfl | simp [ccel, jfs, rfl5, ofs, m2]
    | 7, _ => first | rfl | simp [ccel, jfs, rfl5, ofs, m2]
    | b + 8, _ => simp only [ccel, kcel_hi (show 13 ≤ 18 by decide)]
theorem jc_Y0 {G : gw_G} {adr : Nat → Nat} {n : Nat} {S Y : Nat → Nat → Int32} {L : Int64} {v : Int32} : va_up (ccel G adr n S Y L) 3 (some (.inr (1, (jfs adr S Y).set 6 (.int v)))) = ccel G adr n S (m2 Y 0 0 v) L := by
  funext a
  by_cases ha : a = 3
  · subst ha
    simp [va_up, ccel, jfs, rfl5, ofs, m2, List.set]
  · simp only [va_up, if_neg ha]
    match a, ha with
    | 0, _ => first | rfl | simp [ccel, jfs, rfl5, ofs, m2]
    | 1, _ => first | rfl | simp [ccel, jfs, rfl5, ofs, m2]
    | 2, _ => first | rfl | simp [ccel, jfs, rfl5, ofs, m2]
    | 3, ha => exact absurd rfl ha
    | 4, _ => first | rfl | simp [ccel, jfs, rfl5, ofs, m2]
    | 5, _ => first | rfl | simp [ccel, jfs, rfl5, ofs, m2]
    | 6, _ => first | rfl | simp [ccel, jfs, rfl5, ofs, m2]
    | 7, _ => first | rfl | simp [ccel, jfs, rfl5, ofs, m2]
    | b + 8, _ => rfl
theorem jc_Y1 {G : gw_G} {adr : Nat → Nat} {n : Nat} {S Y : Nat → Nat → Int32} {L : Int64} {v : Int32} : va_up (ccel G adr n S Y L) 3 (some (.inr (1, (jfs adr S Y).set 7 (.int v)))) = ccel G adr n S (m2 Y 1 0 v) L := by
  funext a
  by_cases ha : a = 3
  · subst ha
    simp [va_up, ccel, jfs, rfl5, ofs, m2, List.set]
  · simp only [va_up, if_neg ha]
    match a, ha with
    | 0, _ => first | rfl | simp [ccel, jfs, rfl5, ofs, m2]
    | 1, _ => first | rfl | simp [ccel, jfs, rfl5, ofs, m2]
    | 2, _ => first | rfl | simp [ccel, jfs, rfl5, ofs, m2]
    | 3, ha => exact absurd rfl ha
    | 4, _ => first | rfl | simp [ccel, jfs, rfl5, ofs, m2]
    | 5, _ => first | rfl | simp [ccel, jfs, rfl5, ofs, m2]
    | 6, _ => first | rfl | simp [ccel, jfs, rfl5, ofs, m2]
    | 7, _ => first | rfl | simp [ccel, jfs, rfl5, ofs, m2]
    | b + 8, _ => rfl
theorem jc_S14 {G : gw_G} {adr : Nat → Nat} {n : Nat} {S Y : Nat → Nat → Int32} {L : Int64} {i : Nat} {v : Int32} : va_up (ccel G adr n S Y L) 4 (some (.inl (G.2 0, 60, .inl (va_up (S 14) i v)))) = ccel G adr n (m2 S 14 i v) Y L := by
  funext a
  by_cases ha : a = 4
  · subst ha
    simp [va_up, ccel, jfs, rfl5, ofs, m2, List.set]
  · simp only [va_up, if_neg ha]
    match a, ha with
    | 0, _ => first | rfl | simp [ccel, jfs, rfl5, ofs, m2]
    | 1, _ => first | rfl | simp [ccel, jfs, rfl5, ofs, m2]
    | 2, _ => first | rfl | simp [ccel, jfs, rfl5, ofs, m2]
    | 3, _ => first | rfl | simp [ccel, jfs, rfl5, ofs, m2]
    | 4, ha => exact absurd rfl ha
    | 5, _ => first | rfl | simp [ccel, jfs, rfl5, ofs, m2]
    | 6, _ => first | rfl | simp [ccel, jfs, rfl5, ofs, m2]
    | 7, _ => first | rfl | simp [ccel, jfs, rfl5, ofs, m2]
    | b + 8, _ => simp only [ccel, kcel_hi (show 13 ≤ 14 by decide)]
theorem jc_S15 {G : gw_G} {adr : Nat → Nat} {n : Nat} {S Y : Nat → Nat → Int32} {L : Int64} {i : Nat} {v : Int32} : va_up (ccel G adr n S Y L) 5 (some (.inl (G.2 0, 60, .inl (va_up (S 15) i v)))) = ccel G adr n (m2 S 15 i v) Y L := by
  funext a
  by_cases ha : a = 5
  · subst ha
    simp [va_up, ccel, jfs, rfl5, ofs, m2, List.set]
  · simp only [va_up, if_neg ha]
    match a, ha with
    | 0, _ => first | rfl | simp [ccel, jfs, rfl5, ofs, m2]
    | 1, _ => first | rfl | simp [ccel, jfs, rfl5, ofs, m2]
    | 2, _ => first | rfl | simp [ccel, jfs, rfl5, ofs, m2]
    | 3, _ => first | rfl | simp [ccel, jfs, rfl5, ofs, m2]
    | 4, _ => first | rfl | simp [ccel, jfs, rfl5, ofs, m2]
    | 5, ha => exact absurd rfl ha
    | 6, _ => first | rfl | simp [ccel, jfs, rfl5, ofs, m2]
    | 7, _ => first | rfl | simp [ccel, jfs, rfl5, ofs, m2]
    | b + 8, _ => simp only [ccel, kcel_hi (show 13 ≤ 15 by decide)]
theorem rc_Y2 {G : gw_G} {adr : Nat → Nat} {n : Nat} {S Y : Nat → Nat → Int32} {L : Int64} {v : Int32} : va_up (ccel G adr n S Y L) 6 (some (.inr (5, (rfl5 adr Y L).set 0 (.int v)))) = ccel G adr n S (m2 Y 2 0 v) L := by
  funext a
  by_cases ha : a = 6
  · subst ha
    simp [va_up, ccel, jfs, rfl5, ofs, m2, List.set]
  · simp only [va_up, if_neg ha]
    match a, ha with
    | 0, _ => first | rfl | simp [ccel, jfs, rfl5, ofs, m2]
    | 1, _ => first | rfl | simp [ccel, jfs, rfl5, ofs, m2]
    | 2, _ => first | rfl | simp [ccel, jfs, rfl5, ofs, m2]
    | 3, _ => first | rfl | simp [ccel, jfs, rfl5, ofs, m2]
    | 4, _ => first | rfl | simp [ccel, jfs, rfl5, ofs, m2]
    | 5, _ => first | rfl | simp [ccel, jfs, rfl5, ofs, m2]
    | 6, ha => exact absurd rfl ha
    | 7, _ => first | rfl | simp [ccel, jfs, rfl5, ofs, m2]
    | b + 8, _ => rfl
theorem rc_Y3 {G : gw_G} {adr : Nat → Nat} {n : Nat} {S Y : Nat → Nat → Int32} {L : Int64} {v : Int32} : va_up (ccel G adr n S Y L) 6 (some (.inr (5, (rfl5 adr Y L).set 3 (.int v)))) = ccel G adr n S (m2 Y 3 0 v) L := by
  funext a
  by_cases ha : a = 6
  · subst ha
    simp [va_up, ccel, jfs, rfl5, ofs, m2, List.set]
  · simp only [va_up, if_neg ha]
    match a, ha with
    | 0, _ => first | rfl | simp [ccel, jfs, rfl5, ofs, m2]
    | 1, _ => first | rfl | simp [ccel, jfs, rfl5, ofs, m2]
    | 2, _ => first | rfl | simp [ccel, jfs, rfl5, ofs, m2]
    | 3, _ => first | rfl | simp [ccel, jfs, rfl5, ofs, m2]
    | 4, _ => first | rfl | simp [ccel, jfs, rfl5, ofs, m2]
    | 5, _ => first | rfl | simp [ccel, jfs, rfl5, ofs, m2]
    | 6, ha => exact absurd rfl ha
    | 7, _ => first | rfl | simp [ccel, jfs, rfl5, ofs, m2]
    | b + 8, _ => rfl
theorem rc_L {G : gw_G} {adr : Nat → Nat} {n : Nat} {S Y : Nat → Nat → Int32} {L : Int64} {v : Int64} : va_up (ccel G adr n S Y L) 6 (some (.inr (5, (rfl5 adr Y L).set 1 (.long v)))) = ccel G adr n S Y v := by
  funext a
  by_cases ha : a = 6
  · subst ha
    simp [va_up, ccel, jfs, rfl5, ofs, m2, List.set]
  · simp only [va_up, if_neg ha]
    match a, ha with
    | 0, _ => first | rfl | simp [ccel, jfs, rfl5, ofs, m2]
    | 1, _ => first | rfl | simp [ccel, jfs, rfl5, ofs, m2]
    | 2, _ => first | rfl | simp [ccel, jfs, rfl5, ofs, m2]
    | 3, _ => first | rfl | simp [ccel, jfs, rfl5, ofs, m2]
    | 4, _ => first | rfl | simp [ccel, jfs, rfl5, ofs, m2]
    | 5, _ => first | rfl | simp [ccel, jfs, rfl5, ofs, m2]
    | 6, ha => exact absurd rfl ha
    | 7, _ => first | rfl | simp [ccel, jfs, rfl5, ofs, m2]
    | b + 8, _ => rfl
section CW
variable {p : Program} {l : Launch} {e : Env} {R : Room} {s : State} {m : MethodId} {args : Array Value} {below : List Frame} {meth : Method} {c : Code} {H : Heap} {locs : List Loc} {cells slots : Nat} {Q : State → Prop}
variable {cc : ByteArray} {pc : Nat} {ls : Array Slot} {rest : List Value} {G : gw_G} {A : Nat → Prop} {H0 : Heap} {adr : Nat → Nat} {S Y : Nat → Nat → Int32} {L : Int64} {n : Nat} {own : String}
theorem kg_0 (F : gw_F p m c cc s args own) (hK : gw_K G s) (hC : cB G A adr n S Y L H0 H locs) {x : Nat} (hxn : x < n) {index : Nat} (hlk : Cond.fieldLink own index "ClassStarts$Kind" "number" "I" ∈ gwA) (hdg : decode cc pc = .ok (.getfield index, 3)) (kk : W p l e R s m args below meth c H locs cells slots Q (F0 m (pc + 3) ls (.int (nI x) :: rest))) : W p l e R s m args below meth c H locs cells slots Q (F0 m pc ls (.ref (adr (nk x 0)) :: rest)) := gw_get F hK hC.1 (nk x 0) (ccel_k hxn (by decide)) rfl inX2 0 (by decide) hlk rfl hdg kk
theorem kg_1 (F : gw_F p m c cc s args own) (hK : gw_K G s) (hC : cB G A adr n S Y L H0 H locs) {x : Nat} (hxn : x < n) {index : Nat} (hlk : Cond.fieldLink own index "ClassStarts$Kind" "isFace" "Z" ∈ gwA) (hdg : decode cc pc = .ok (.getfield index, 3)) (kk : W p l e R s m args below meth c H locs cells slots Q (F0 m (pc + 3) ls (.int (S 1 x) :: rest))) : W p l e R s m args below meth c H locs cells slots Q (F0 m pc ls (.ref (adr (nk x 0)) :: rest)) := gw_get F hK hC.1 (nk x 0) (ccel_k hxn (by decide)) rfl inX2 1 (by decide) hlk rfl hdg kk
theorem kg_2 (F : gw_F p m c cc s args own) (hK : gw_K G s) (hC : cB G A adr n S Y L H0 H locs) {x : Nat} (hxn : x < n) {index : Nat} (hlk : Cond.fieldLink own index "ClassStarts$Kind" "hasDefaults" "Z" ∈ gwA) (hdg : decode cc pc = .ok (.getfield index, 3)) (kk : W p l e R s m args below meth c H locs cells slots Q (F0 m (pc + 3) ls (.int (S 2 x) :: rest))) : W p l e R s m args below meth c H locs cells slots Q (F0 m pc ls (.ref (adr (nk x 0)) :: rest)) := gw_get F hK hC.1 (nk x 0) (ccel_k hxn (by decide)) rfl inX2 2 (by decide) hlk rfl hdg kk
theorem kg_3 (F : gw_F p m c cc s args own) (hK : gw_K G s) (hC : cB G A adr n S Y L H0 H locs) {x : Nat} (hxn : x < n) {index : Nat} (hlk : Cond.fieldLink own index "ClassStarts$Kind" "parent" "LClassStarts$Kind;" ∈ gwA) (hdg : decode cc pc = .ok (.getfield index, 3)) (kk : W p l e R s m args below meth c H locs cells slots Q (F0 m (pc + 3) ls (va_rf (pref adr S x) :: rest))) : W p l e R s m args below meth c H locs cells slots Q (F0 m pc ls (.ref (adr (nk x 0)) :: rest)) := gw_get F hK hC.1 (nk x 0) (ccel_k hxn (by decide)) rfl inX2 3 (by decide) hlk rfl hdg kk
theorem kg_4 (F : gw_F p m c cc s args own) (hK : gw_K G s) (hC : cB G A adr n S Y L H0 H locs) {x : Nat} (hxn : x < n) {index : Nat} (hlk : Cond.fieldLink own index "ClassStarts$Kind" "faces" "[LClassStarts$Kind;" ∈ gwA) (hdg : decode cc pc = .ok (.getfield index, 3)) (kk : W p l e R s m args below meth c H locs cells slots Q (F0 m (pc + 3) ls (.ref (adr (nk x 1)) :: rest))) : W p l e R s m args below meth c H locs cells slots Q (F0 m pc ls (.ref (adr (nk x 0)) :: rest)) := gw_get F hK hC.1 (nk x 0) (ccel_k hxn (by decide)) rfl inX2 4 (by decide) hlk rfl hdg kk
theorem kg_5 (F : gw_F p m c cc s args own) (hK : gw_K G s) (hC : cB G A adr n S Y L H0 H locs) {x : Nat} (hxn : x < n) {index : Nat} (hlk : Cond.fieldLink own index "ClassStarts$Kind" "faceCount" "I" ∈ gwA) (hdg : decode cc pc = .ok (.getfield index, 3)) (kk : W p l e R s m args below meth c H locs cells slots Q (F0 m (pc + 3) ls (.int (S 4 x) :: rest))) : W p l e R s m args below meth c H locs cells slots Q (F0 m pc ls (.ref (adr (nk x 0)) :: rest)) := gw_get F hK hC.1 (nk x 0) (ccel_k hxn (by decide)) rfl inX2 5 (by decide) hlk rfl hdg kk
theorem kg_6 (F : gw_F p m c cc s args own) (hK : gw_K G s) (hC : cB G A adr n S Y L H0 H locs) {x : Nat} (hxn : x < n) {index : Nat} (hlk : Cond.fieldLink own index "ClassStarts$Kind" "fields" "[I" ∈ gwA) (hdg : decode cc pc = .ok (.getfield index, 3)) (kk : W p l e R s m args below meth c H locs cells slots Q (F0 m (pc + 3) ls (.ref (adr (nk x 2)) :: rest))) : W p l e R s m args below meth c H locs cells slots Q (F0 m pc ls (.ref (adr (nk x 0)) :: rest)) := gw_get F hK hC.1 (nk x 0) (ccel_k hxn (by decide)) rfl inX2 6 (by decide) hlk rfl hdg kk
theorem kg_7 (F : gw_F p m c cc s args own) (hK : gw_K G s) (hC : cB G A adr n S Y L H0 H locs) {x : Nat} (hxn : x < n) {index : Nat} (hlk : Cond.fieldLink own index "ClassStarts$Kind" "constants" "[Z" ∈ gwA) (hdg : decode cc pc = .ok (.getfield index, 3)) (kk : W p l e R s m args below meth c H locs cells slots Q (F0 m (pc + 3) ls (.ref (adr (nk x 3)) :: rest))) : W p l e R s m args below meth c H locs cells slots Q (F0 m pc ls (.ref (adr (nk x 0)) :: rest)) := gw_get F hK hC.1 (nk x 0) (ccel_k hxn (by decide)) rfl inX2 7 (by decide) hlk rfl hdg kk
theorem kg_8 (F : gw_F p m c cc s args own) (hK : gw_K G s) (hC : cB G A adr n S Y L H0 H locs) {x : Nat} (hxn : x < n) {index : Nat} (hlk : Cond.fieldLink own index "ClassStarts$Kind" "row" "[I" ∈ gwA) (hdg : decode cc pc = .ok (.getfield index, 3)) (kk : W p l e R s m args below meth c H locs cells slots Q (F0 m (pc + 3) ls (.ref (adr (nk x 4)) :: rest))) : W p l e R s m args below meth c H locs cells slots Q (F0 m pc ls (.ref (adr (nk x 0)) :: rest)) := gw_get F hK hC.1 (nk x 0) (ccel_k hxn (by decide)) rfl inX2 8 (by decide) hlk rfl hdg kk
theorem kg_9 (F : gw_F p m c cc s args own) (hK : gw_K G s) (hC : cB G A adr n S Y L H0 H locs) {x : Nat} (hxn : x < n) {index : Nat} (hlk : Cond.fieldLink own index "ClassStarts$Kind" "items" "I" ∈ gwA) (hdg : decode cc pc = .ok (.getfield index, 3)) (kk : W p l e R s m args below meth c H locs cells slots Q (F0 m (pc + 3) ls (.int (S 8 x - nI 1) :: rest))) : W p l e R s m args below meth c H locs cells slots Q (F0 m pc ls (.ref (adr (nk x 0)) :: rest)) := gw_get F hK hC.1 (nk x 0) (ccel_k hxn (by decide)) rfl inX2 9 (by decide) hlk rfl hdg kk
theorem kg_10 (F : gw_F p m c cc s args own) (hK : gw_K G s) (hC : cB G A adr n S Y L H0 H locs) {x : Nat} (hxn : x < n) {index : Nat} (hlk : Cond.fieldLink own index "ClassStarts$Kind" "methods" "[LClassStarts$Method;" ∈ gwA) (hdg : decode cc pc = .ok (.getfield index, 3)) (kk : W p l e R s m args below meth c H locs cells slots Q (F0 m (pc + 3) ls (.ref (adr (nk x 5)) :: rest))) : W p l e R s m args below meth c H locs cells slots Q (F0 m pc ls (.ref (adr (nk x 0)) :: rest)) := gw_get F hK hC.1 (nk x 0) (ccel_k hxn (by decide)) rfl inX2 10 (by decide) hlk rfl hdg kk
theorem kg_11 (F : gw_F p m c cc s args own) (hK : gw_K G s) (hC : cB G A adr n S Y L H0 H locs) {x : Nat} (hxn : x < n) {index : Nat} (hlk : Cond.fieldLink own index "ClassStarts$Kind" "state" "I" ∈ gwA) (hdg : decode cc pc = .ok (.getfield index, 3)) (kk : W p l e R s m args below meth c H locs cells slots Q (F0 m (pc + 3) ls (.int (S 12 x) :: rest))) : W p l e R s m args below meth c H locs cells slots Q (F0 m pc ls (.ref (adr (nk x 0)) :: rest)) := gw_get F hK hC.1 (nk x 0) (ccel_k hxn (by decide)) rfl inX2 11 (by decide) hlk rfl hdg kk
theorem kp_11 (F : gw_F p m c cc s args own) (hK : gw_K G s) (hC : cB G A adr n S Y L H0 H locs) {x : Nat} {v : Int32} (hxn : x < n) {index : Nat} (hlk : Cond.fieldLink own index "ClassStarts$Kind" "state" "I" ∈ gwA) (hdg : decode cc pc = .ok (.putfield index, 3)) (kk : ∀ (H1 : Heap) (locs1 : List Loc), cB G A adr n (m2 S 12 x v) Y L H0 H1 locs1 → W p l e R s m args below meth c H1 locs1 cells slots Q (F0 m (pc + 3) ls (rest))) : W p l e R s m args below meth c H locs cells slots Q (F0 m pc ls (.int v :: .ref (adr (nk x 0)) :: rest)) := gw_put F hK hC (nk x 0) (ccel_k hxn (by decide)) rfl inX2 tyX2 tyX2_ok nmX2 11 (by decide) hlk rfl (ty := .int) rfl rfl rfl (Nat.le_of_ble_eq_true rfl) hdg (fun H1 locs1 hB => kk H1 locs1 (gw_B.to hB (kc_state hxn)))
theorem kp_9 (F : gw_F p m c cc s args own) (hK : gw_K G s) (hC : cB G A adr n S Y L H0 H locs) {x : Nat} {v w : Int32} (hxn : x < n) (hv : v = w - nI 1) {index : Nat} (hlk : Cond.fieldLink own index "ClassStarts$Kind" "items" "I" ∈ gwA) (hdg : decode cc pc = .ok (.putfield index, 3)) (kk : ∀ (H1 : Heap) (locs1 : List Loc), cB G A adr n (m2 S 8 x w) Y L H0 H1 locs1 → W p l e R s m args below meth c H1 locs1 cells slots Q (F0 m (pc + 3) ls (rest))) : W p l e R s m args below meth c H locs cells slots Q (F0 m pc ls (.int v :: .ref (adr (nk x 0)) :: rest)) := by
  subst hv
  exact gw_put F hK hC (nk x 0) (ccel_k hxn (by decide)) rfl inX2 tyX2 tyX2_ok nmX2 9 (by decide) hlk rfl (ty := .int) rfl rfl rfl (Nat.le_of_ble_eq_true rfl) hdg (fun H1 locs1 hB => kk H1 locs1 (gw_B.to hB (kc_items hxn)))
theorem mg_0 (F : gw_F p m c cc s args own) (hK : gw_K G s) (hC : cB G A adr n S Y L H0 H locs) {x q : Nat} (hxn : x < n) (hq : q < 4) {index : Nat} (hlk : Cond.fieldLink own index "ClassStarts$Method" "number" "I" ∈ gwA) (hdg : decode cc pc = .ok (.getfield index, 3)) (kk : W p l e R s m args below meth c H locs cells slots Q (F0 m (pc + 3) ls (.int (nI (4 * x + q)) :: rest))) : W p l e R s m args below meth c H locs cells slots Q (F0 m pc ls (.ref (adr (nk x (6 + q))) :: rest)) := gw_get F hK hC.1 (nk x (6 + q)) ((ccel_k hxn (by omega)).trans (kc_m hq)) rfl inX4 0 (by decide) hlk rfl hdg kk
theorem mg_1 (F : gw_F p m c cc s args own) (hK : gw_K G s) (hC : cB G A adr n S Y L H0 H locs) {x q : Nat} (hxn : x < n) (hq : q < 4) {index : Nat} (hlk : Cond.fieldLink own index "ClassStarts$Method" "acts" "[LClassStarts$Act;" ∈ gwA) (hdg : decode cc pc = .ok (.getfield index, 3)) (kk : W p l e R s m args below meth c H locs cells slots Q (F0 m (pc + 3) ls (.ref (adr (nk x (10 + q))) :: rest))) : W p l e R s m args below meth c H locs cells slots Q (F0 m pc ls (.ref (adr (nk x (6 + q))) :: rest)) := gw_get F hK hC.1 (nk x (6 + q)) ((ccel_k hxn (by omega)).trans (kc_m hq)) rfl inX4 1 (by decide) hlk rfl hdg kk
theorem mg_2 (F : gw_F p m c cc s args own) (hK : gw_K G s) (hC : cB G A adr n S Y L H0 H locs) {x q : Nat} (hxn : x < n) (hq : q < 4) {index : Nat} (hlk : Cond.fieldLink own index "ClassStarts$Method" "size" "I" ∈ gwA) (hdg : decode cc pc = .ok (.getfield index, 3)) (kk : W p l e R s m args below meth c H locs cells slots Q (F0 m (pc + 3) ls (.int (S 10 (4 * x + q)) :: rest))) : W p l e R s m args below meth c H locs cells slots Q (F0 m pc ls (.ref (adr (nk x (6 + q))) :: rest)) := gw_get F hK hC.1 (nk x (6 + q)) ((ccel_k hxn (by omega)).trans (kc_m hq)) rfl inX4 2 (by decide) hlk rfl hdg kk
theorem ag_0 (F : gw_F p m c cc s args own) (hK : gw_K G s) (hC : cB G A adr n S Y L H0 H locs) {x q i ac : Nat} (hxn : x < n) (hq : q < 4) (hac : S 10 (4 * x + q) = nI ac) (hi : i < ac) (h10 : ac ≤ 10) {index : Nat} (hlk : Cond.fieldLink own index "ClassStarts$Act" "sort" "I" ∈ gwA) (hdg : decode cc pc = .ok (.getfield index, 3)) (kk : W p l e R s m args below meth c H locs cells slots Q (F0 m (pc + 3) ls (.int (S 11 (40 * (4 * x + q) + 4 * i)) :: rest))) : W p l e R s m args below meth c H locs cells slots Q (F0 m pc ls (.ref (adr (nk x (14 + 10 * q + i))) :: rest)) := gw_get F hK hC.1 (nk x (14 + 10 * q + i)) ((ccel_k hxn (by omega)).trans (kc_t hq hac hi h10)) rfl inX0 0 (by decide) hlk rfl hdg kk
theorem ag_1 (F : gw_F p m c cc s args own) (hK : gw_K G s) (hC : cB G A adr n S Y L H0 H locs) {x q i ac : Nat} (hxn : x < n) (hq : q < 4) (hac : S 10 (4 * x + q) = nI ac) (hi : i < ac) (h10 : ac ≤ 10) {index : Nat} (hlk : Cond.fieldLink own index "ClassStarts$Act" "other" "LClassStarts$Kind;" ∈ gwA) (hdg : decode cc pc = .ok (.getfield index, 3)) (kk : W p l e R s m args below meth c H locs cells slots Q (F0 m (pc + 3) ls (.ref (adr (nk (oth (S 11) x (40 * (4 * x + q) + 4 * i)) 0)) :: rest))) : W p l e R s m args below meth c H locs cells slots Q (F0 m pc ls (.ref (adr (nk x (14 + 10 * q + i))) :: rest)) := gw_get F hK hC.1 (nk x (14 + 10 * q + i)) ((ccel_k hxn (by omega)).trans (kc_t hq hac hi h10)) rfl inX0 1 (by decide) hlk rfl hdg kk
theorem ag_2 (F : gw_F p m c cc s args own) (hK : gw_K G s) (hC : cB G A adr n S Y L H0 H locs) {x q i ac : Nat} (hxn : x < n) (hq : q < 4) (hac : S 10 (4 * x + q) = nI ac) (hi : i < ac) (h10 : ac ≤ 10) {index : Nat} (hlk : Cond.fieldLink own index "ClassStarts$Act" "a" "I" ∈ gwA) (hdg : decode cc pc = .ok (.getfield index, 3)) (kk : W p l e R s m args below meth c H locs cells slots Q (F0 m (pc + 3) ls (.int (S 11 (40 * (4 * x + q) + 4 * i + 1)) :: rest))) : W p l e R s m args below meth c H locs cells slots Q (F0 m pc ls (.ref (adr (nk x (14 + 10 * q + i))) :: rest)) := gw_get F hK hC.1 (nk x (14 + 10 * q + i)) ((ccel_k hxn (by omega)).trans (kc_t hq hac hi h10)) rfl inX0 2 (by decide) hlk rfl hdg kk
theorem ag_3 (F : gw_F p m c cc s args own) (hK : gw_K G s) (hC : cB G A adr n S Y L H0 H locs) {x q i ac : Nat} (hxn : x < n) (hq : q < 4) (hac : S 10 (4 * x + q) = nI ac) (hi : i < ac) (h10 : ac ≤ 10) {index : Nat} (hlk : Cond.fieldLink own index "ClassStarts$Act" "b" "I" ∈ gwA) (hdg : decode cc pc = .ok (.getfield index, 3)) (kk : W p l e R s m args below meth c H locs cells slots Q (F0 m (pc + 3) ls (.int (S 11 (40 * (4 * x + q) + 4 * i + 2)) :: rest))) : W p l e R s m args below meth c H locs cells slots Q (F0 m pc ls (.ref (adr (nk x (14 + 10 * q + i))) :: rest)) := gw_get F hK hC.1 (nk x (14 + 10 * q + i)) ((ccel_k hxn (by omega)).trans (kc_t hq hac hi h10)) rfl inX0 3 (by decide) hlk rfl hdg kk
theorem ag_4 (F : gw_F p m c cc s args own) (hK : gw_K G s) (hC : cB G A adr n S Y L H0 H locs) {x q i ac : Nat} (hxn : x < n) (hq : q < 4) (hac : S 10 (4 * x + q) = nI ac) (hi : i < ac) (h10 : ac ≤ 10) {index : Nat} (hlk : Cond.fieldLink own index "ClassStarts$Act" "c" "I" ∈ gwA) (hdg : decode cc pc = .ok (.getfield index, 3)) (kk : W p l e R s m args below meth c H locs cells slots Q (F0 m (pc + 3) ls (.int (S 11 (40 * (4 * x + q) + 4 * i + 3)) :: rest))) : W p l e R s m args below meth c H locs cells slots Q (F0 m pc ls (.ref (adr (nk x (14 + 10 * q + i))) :: rest)) := gw_get F hK hC.1 (nk x (14 + 10 * q + i)) ((ccel_k hxn (by omega)).trans (kc_t hq hac hi h10)) rfl inX0 4 (by decide) hlk rfl hdg kk
theorem ag_5 (F : gw_F p m c cc s args own) (hK : gw_K G s) (hC : cB G A adr n S Y L H0 H locs) {x q i ac : Nat} (hxn : x < n) (hq : q < 4) (hac : S 10 (4 * x + q) = nI ac) (hi : i < ac) (h10 : ac ≤ 10) {index : Nat} (hlk : Cond.fieldLink own index "ClassStarts$Act" "lastGuarded" "I" ∈ gwA) (hdg : decode cc pc = .ok (.getfield index, 3)) (kk : W p l e R s m args below meth c H locs cells slots Q (F0 m (pc + 3) ls (.int (lgI (S 11) (4 * x + q) i) :: rest))) : W p l e R s m args below meth c H locs cells slots Q (F0 m pc ls (.ref (adr (nk x (14 + 10 * q + i))) :: rest)) := gw_get F hK hC.1 (nk x (14 + 10 * q + i)) ((ccel_k hxn (by omega)).trans (kc_t hq hac hi h10)) rfl inX0 5 (by decide) hlk rfl hdg kk
theorem jg_0 (F : gw_F p m c cc s args own) (hK : gw_K G s) (hC : cB G A adr n S Y L H0 H locs)  {index : Nat} (hlk : Cond.fieldLink own index "ClassStarts$Journal" "sorts" "[I" ∈ gwA) (hdg : decode cc pc = .ok (.getfield index, 3)) (kk : W p l e R s m args below meth c H locs cells slots Q (F0 m (pc + 3) ls (.ref (adr 4) :: rest))) : W p l e R s m args below meth c H locs cells slots Q (F0 m pc ls (.ref (adr (3)) :: rest)) := gw_get F hK hC.1 (3) (rfl) rfl inX1 0 (by decide) hlk rfl hdg kk
theorem jg_1 (F : gw_F p m c cc s args own) (hK : gw_K G s) (hC : cB G A adr n S Y L H0 H locs)  {index : Nat} (hlk : Cond.fieldLink own index "ClassStarts$Journal" "values" "[I" ∈ gwA) (hdg : decode cc pc = .ok (.getfield index, 3)) (kk : W p l e R s m args below meth c H locs cells slots Q (F0 m (pc + 3) ls (.ref (adr 5) :: rest))) : W p l e R s m args below meth c H locs cells slots Q (F0 m pc ls (.ref (adr (3)) :: rest)) := gw_get F hK hC.1 (3) (rfl) rfl inX1 1 (by decide) hlk rfl hdg kk
theorem jg_2 (F : gw_F p m c cc s args own) (hK : gw_K G s) (hC : cB G A adr n S Y L H0 H locs)  {index : Nat} (hlk : Cond.fieldLink own index "ClassStarts$Journal" "events" "I" ∈ gwA) (hdg : decode cc pc = .ok (.getfield index, 3)) (kk : W p l e R s m args below meth c H locs cells slots Q (F0 m (pc + 3) ls (.int (S 13 0) :: rest))) : W p l e R s m args below meth c H locs cells slots Q (F0 m pc ls (.ref (adr (3)) :: rest)) := gw_get F hK hC.1 (3) (rfl) rfl inX1 2 (by decide) hlk rfl hdg kk
theorem jg_3 (F : gw_F p m c cc s args own) (hK : gw_K G s) (hC : cB G A adr n S Y L H0 H locs)  {index : Nat} (hlk : Cond.fieldLink own index "ClassStarts$Journal" "halfSeen" "I" ∈ gwA) (hdg : decode cc pc = .ok (.getfield index, 3)) (kk : W p l e R s m args below meth c H locs cells slots Q (F0 m (pc + 3) ls (.int (S 16 0) :: rest))) : W p l e R s m args below meth c H locs cells slots Q (F0 m pc ls (.ref (adr (3)) :: rest)) := gw_get F hK hC.1 (3) (rfl) rfl inX1 3 (by decide) hlk rfl hdg kk
theorem jg_4 (F : gw_F p m c cc s args own) (hK : gw_K G s) (hC : cB G A adr n S Y L H0 H locs)  {index : Nat} (hlk : Cond.fieldLink own index "ClassStarts$Journal" "acts" "I" ∈ gwA) (hdg : decode cc pc = .ok (.getfield index, 3)) (kk : W p l e R s m args below meth c H locs cells slots Q (F0 m (pc + 3) ls (.int (S 17 0) :: rest))) : W p l e R s m args below meth c H locs cells slots Q (F0 m pc ls (.ref (adr (3)) :: rest)) := gw_get F hK hC.1 (3) (rfl) rfl inX1 4 (by decide) hlk rfl hdg kk
theorem jg_5 (F : gw_F p m c cc s args own) (hK : gw_K G s) (hC : cB G A adr n S Y L H0 H locs)  {index : Nat} (hlk : Cond.fieldLink own index "ClassStarts$Journal" "raised" "I" ∈ gwA) (hdg : decode cc pc = .ok (.getfield index, 3)) (kk : W p l e R s m args below meth c H locs cells slots Q (F0 m (pc + 3) ls (.int (S 18 0) :: rest))) : W p l e R s m args below meth c H locs cells slots Q (F0 m pc ls (.ref (adr (3)) :: rest)) := gw_get F hK hC.1 (3) (rfl) rfl inX1 5 (by decide) hlk rfl hdg kk
theorem jg_6 (F : gw_F p m c cc s args own) (hK : gw_K G s) (hC : cB G A adr n S Y L H0 H locs)  {index : Nat} (hlk : Cond.fieldLink own index "ClassStarts$Journal" "ended" "I" ∈ gwA) (hdg : decode cc pc = .ok (.getfield index, 3)) (kk : W p l e R s m args below meth c H locs cells slots Q (F0 m (pc + 3) ls (.int (Y 0 0) :: rest))) : W p l e R s m args below meth c H locs cells slots Q (F0 m pc ls (.ref (adr (3)) :: rest)) := gw_get F hK hC.1 (3) (rfl) rfl inX1 6 (by decide) hlk rfl hdg kk
theorem jg_7 (F : gw_F p m c cc s args own) (hK : gw_K G s) (hC : cB G A adr n S Y L H0 H locs)  {index : Nat} (hlk : Cond.fieldLink own index "ClassStarts$Journal" "startCause" "I" ∈ gwA) (hdg : decode cc pc = .ok (.getfield index, 3)) (kk : W p l e R s m args below meth c H locs cells slots Q (F0 m (pc + 3) ls (.int (Y 1 0) :: rest))) : W p l e R s m args below meth c H locs cells slots Q (F0 m pc ls (.ref (adr (3)) :: rest)) := gw_get F hK hC.1 (3) (rfl) rfl inX1 7 (by decide) hlk rfl hdg kk
theorem jp_2 (F : gw_F p m c cc s args own) (hK : gw_K G s) (hC : cB G A adr n S Y L H0 H locs) {v : Int32} {index : Nat} (hlk : Cond.fieldLink own index "ClassStarts$Journal" "events" "I" ∈ gwA) (hdg : decode cc pc = .ok (.putfield index, 3)) (kk : ∀ (H1 : Heap) (locs1 : List Loc), cB G A adr n (m2 S 13 0 v) Y L H0 H1 locs1 → W p l e R s m args below meth c H1 locs1 cells slots Q (F0 m (pc + 3) ls (rest))) : W p l e R s m args below meth c H locs cells slots Q (F0 m pc ls (.int v :: .ref (adr (3)) :: rest)) := gw_put F hK hC (3) (rfl) rfl inX1 tyX1 tyX1_ok nmX1 2 (by decide) hlk rfl (ty := .int) rfl rfl rfl (Nat.le_of_ble_eq_true rfl) hdg (fun H1 locs1 hB => kk H1 locs1 (gw_B.to hB (jc_S13)))
theorem jp_3 (F : gw_F p m c cc s args own) (hK : gw_K G s) (hC : cB G A adr n S Y L H0 H locs) {v : Int32} {index : Nat} (hlk : Cond.fieldLink own index "ClassStarts$Journal" "halfSeen" "I" ∈ gwA) (hdg : decode cc pc = .ok (.putfield index, 3)) (kk : ∀ (H1 : Heap) (locs1 : List Loc), cB G A adr n (m2 S 16 0 v) Y L H0 H1 locs1 → W p l e R s m args below meth c H1 locs1 cells slots Q (F0 m (pc + 3) ls (rest))) : W p l e R s m args below meth c H locs cells slots Q (F0 m pc ls (.int v :: .ref (adr (3)) :: rest)) := gw_put F hK hC (3) (rfl) rfl inX1 tyX1 tyX1_ok nmX1 3 (by decide) hlk rfl (ty := .int) rfl rfl rfl (Nat.le_of_ble_eq_true rfl) hdg (fun H1 locs1 hB => kk H1 locs1 (gw_B.to hB (jc_S16)))
theorem jp_4 (F : gw_F p m c cc s args own) (hK : gw_K G s) (hC : cB G A adr n S Y L H0 H locs) {v : Int32} {index : Nat} (hlk : Cond.fieldLink own index "ClassStarts$Journal" "acts" "I" ∈ gwA) (hdg : decode cc pc = .ok (.putfield index, 3)) (kk : ∀ (H1 : Heap) (locs1 : List Loc), cB G A adr n (m2 S 17 0 v) Y L H0 H1 locs1 → W p l e R s m args below meth c H1 locs1 cells slots Q (F0 m (pc + 3) ls (rest))) : W p l e R s m args below meth c H locs cells slots Q (F0 m pc ls (.int v :: .ref (adr (3)) :: rest)) := gw_put F hK hC (3) (rfl) rfl inX1 tyX1 tyX1_ok nmX1 4 (by decide) hlk rfl (ty := .int) rfl rfl rfl (Nat.le_of_ble_eq_true rfl) hdg (fun H1 locs1 hB => kk H1 locs1 (gw_B.to hB (jc_S17)))
theorem jp_5 (F : gw_F p m c cc s args own) (hK : gw_K G s) (hC : cB G A adr n S Y L H0 H locs) {v : Int32} {index : Nat} (hlk : Cond.fieldLink own index "ClassStarts$Journal" "raised" "I" ∈ gwA) (hdg : decode cc pc = .ok (.putfield index, 3)) (kk : ∀ (H1 : Heap) (locs1 : List Loc), cB G A adr n (m2 S 18 0 v) Y L H0 H1 locs1 → W p l e R s m args below meth c H1 locs1 cells slots Q (F0 m (pc + 3) ls (rest))) : W p l e R s m args below meth c H locs cells slots Q (F0 m pc ls (.int v :: .ref (adr (3)) :: rest)) := gw_put F hK hC (3) (rfl) rfl inX1 tyX1 tyX1_ok nmX1 5 (by decide) hlk rfl (ty := .int) rfl rfl rfl (Nat.le_of_ble_eq_true rfl) hdg (fun H1 locs1 hB => kk H1 locs1 (gw_B.to hB (jc_S18)))
theorem jp_6 (F : gw_F p m c cc s args own) (hK : gw_K G s) (hC : cB G A adr n S Y L H0 H locs) {v : Int32} {index : Nat} (hlk : Cond.fieldLink own index "ClassStarts$Journal" "ended" "I" ∈ gwA) (hdg : decode cc pc = .ok (.putfield index, 3)) (kk : ∀ (H1 : Heap) (locs1 : List Loc), cB G A adr n S (m2 Y 0 0 v) L H0 H1 locs1 → W p l e R s m args below meth c H1 locs1 cells slots Q (F0 m (pc + 3) ls (rest))) : W p l e R s m args below meth c H locs cells slots Q (F0 m pc ls (.int v :: .ref (adr (3)) :: rest)) := gw_put F hK hC (3) (rfl) rfl inX1 tyX1 tyX1_ok nmX1 6 (by decide) hlk rfl (ty := .int) rfl rfl rfl (Nat.le_of_ble_eq_true rfl) hdg (fun H1 locs1 hB => kk H1 locs1 (gw_B.to hB (jc_Y0)))
theorem jp_7 (F : gw_F p m c cc s args own) (hK : gw_K G s) (hC : cB G A adr n S Y L H0 H locs) {v : Int32} {index : Nat} (hlk : Cond.fieldLink own index "ClassStarts$Journal" "startCause" "I" ∈ gwA) (hdg : decode cc pc = .ok (.putfield index, 3)) (kk : ∀ (H1 : Heap) (locs1 : List Loc), cB G A adr n S (m2 Y 1 0 v) L H0 H1 locs1 → W p l e R s m args below meth c H1 locs1 cells slots Q (F0 m (pc + 3) ls (rest))) : W p l e R s m args below meth c H locs cells slots Q (F0 m pc ls (.int v :: .ref (adr (3)) :: rest)) := gw_put F hK hC (3) (rfl) rfl inX1 tyX1 tyX1_ok nmX1 7 (by decide) hlk rfl (ty := .int) rfl rfl rfl (Nat.le_of_ble_eq_true rfl) hdg (fun H1 locs1 hB => kk H1 locs1 (gw_B.to hB (jc_Y1)))
theorem ng_0 (F : gw_F p m c cc s args own) (hK : gw_K G s) (hC : cB G A adr n S Y L H0 H locs)  {index : Nat} (hlk : Cond.fieldLink own index "ClassStarts$Machine" "journal" "LClassStarts$Journal;" ∈ gwA) (hdg : decode cc pc = .ok (.getfield index, 3)) (kk : W p l e R s m args below meth c H locs cells slots Q (F0 m (pc + 3) ls (.ref (adr 3) :: rest))) : W p l e R s m args below meth c H locs cells slots Q (F0 m pc ls (.ref (adr (2)) :: rest)) := gw_get F hK hC.1 (2) (rfl) rfl inX3 0 (by decide) hlk rfl hdg kk
theorem hg_0 (F : gw_F p m c cc s args own) (hK : gw_K G s) (hC : cB G A adr n S Y L H0 H locs)  {index : Nat} (hlk : Cond.fieldLink own index "ClassStarts$Reach" "wanted" "I" ∈ gwA) (hdg : decode cc pc = .ok (.getfield index, 3)) (kk : W p l e R s m args below meth c H locs cells slots Q (F0 m (pc + 3) ls (.int (Y 2 0) :: rest))) : W p l e R s m args below meth c H locs cells slots Q (F0 m pc ls (.ref (adr (6)) :: rest)) := gw_get F hK hC.1 (6) (rfl) rfl inX5 0 (by decide) hlk rfl hdg kk
theorem hg_1 (F : gw_F p m c cc s args own) (hK : gw_K G s) (hC : cB G A adr n S Y L H0 H locs)  {index : Nat} (hlk : Cond.fieldLink own index "ClassStarts$Reach" "listed" "J" ∈ gwA) (hdg : decode cc pc = .ok (.getfield index, 3)) (kk : W p l e R s m args below meth c H locs cells slots Q (F0 m (pc + 3) ls (.long L :: rest))) : W p l e R s m args below meth c H locs cells slots Q (F0 m pc ls (.ref (adr (6)) :: rest)) := gw_get F hK hC.1 (6) (rfl) rfl inX5 1 (by decide) hlk rfl hdg kk
theorem hg_2 (F : gw_F p m c cc s args own) (hK : gw_K G s) (hC : cB G A adr n S Y L H0 H locs)  {index : Nat} (hlk : Cond.fieldLink own index "ClassStarts$Reach" "methods" "[LClassStarts$Method;" ∈ gwA) (hdg : decode cc pc = .ok (.getfield index, 3)) (kk : W p l e R s m args below meth c H locs cells slots Q (F0 m (pc + 3) ls (.ref (adr 7) :: rest))) : W p l e R s m args below meth c H locs cells slots Q (F0 m pc ls (.ref (adr (6)) :: rest)) := gw_get F hK hC.1 (6) (rfl) rfl inX5 2 (by decide) hlk rfl hdg kk
theorem hg_3 (F : gw_F p m c cc s args own) (hK : gw_K G s) (hC : cB G A adr n S Y L H0 H locs)  {index : Nat} (hlk : Cond.fieldLink own index "ClassStarts$Reach" "size" "I" ∈ gwA) (hdg : decode cc pc = .ok (.getfield index, 3)) (kk : W p l e R s m args below meth c H locs cells slots Q (F0 m (pc + 3) ls (.int (Y 3 0) :: rest))) : W p l e R s m args below meth c H locs cells slots Q (F0 m pc ls (.ref (adr (6)) :: rest)) := gw_get F hK hC.1 (6) (rfl) rfl inX5 3 (by decide) hlk rfl hdg kk
theorem hp_0 (F : gw_F p m c cc s args own) (hK : gw_K G s) (hC : cB G A adr n S Y L H0 H locs) {v : Int32} {index : Nat} (hlk : Cond.fieldLink own index "ClassStarts$Reach" "wanted" "I" ∈ gwA) (hdg : decode cc pc = .ok (.putfield index, 3)) (kk : ∀ (H1 : Heap) (locs1 : List Loc), cB G A adr n S (m2 Y 2 0 v) L H0 H1 locs1 → W p l e R s m args below meth c H1 locs1 cells slots Q (F0 m (pc + 3) ls (rest))) : W p l e R s m args below meth c H locs cells slots Q (F0 m pc ls (.int v :: .ref (adr (6)) :: rest)) := gw_put F hK hC (6) (rfl) rfl inX5 tyX5 tyX5_ok nmX5 0 (by decide) hlk rfl (ty := .int) rfl rfl rfl (Nat.le_of_ble_eq_true rfl) hdg (fun H1 locs1 hB => kk H1 locs1 (gw_B.to hB (rc_Y2)))
theorem hp_3 (F : gw_F p m c cc s args own) (hK : gw_K G s) (hC : cB G A adr n S Y L H0 H locs) {v : Int32} {index : Nat} (hlk : Cond.fieldLink own index "ClassStarts$Reach" "size" "I" ∈ gwA) (hdg : decode cc pc = .ok (.putfield index, 3)) (kk : ∀ (H1 : Heap) (locs1 : List Loc), cB G A adr n S (m2 Y 3 0 v) L H0 H1 locs1 → W p l e R s m args below meth c H1 locs1 cells slots Q (F0 m (pc + 3) ls (rest))) : W p l e R s m args below meth c H locs cells slots Q (F0 m pc ls (.int v :: .ref (adr (6)) :: rest)) := gw_put F hK hC (6) (rfl) rfl inX5 tyX5 tyX5_ok nmX5 3 (by decide) hlk rfl (ty := .int) rfl rfl rfl (Nat.le_of_ble_eq_true rfl) hdg (fun H1 locs1 hB => kk H1 locs1 (gw_B.to hB (rc_Y3)))
theorem hp_1 (F : gw_F p m c cc s args own) (hK : gw_K G s) (hC : cB G A adr n S Y L H0 H locs) {v : Int64} {index : Nat} (hlk : Cond.fieldLink own index "ClassStarts$Reach" "listed" "J" ∈ gwA) (hdg : decode cc pc = .ok (.putfield index, 3)) (kk : ∀ (H1 : Heap) (locs1 : List Loc), cB G A adr n S Y v H0 H1 locs1 → W p l e R s m args below meth c H1 locs1 cells slots Q (F0 m (pc + 3) ls (rest))) : W p l e R s m args below meth c H locs cells slots Q (F0 m pc ls (.long v :: .ref (adr (6)) :: rest)) := gw_put F hK hC (6) (rfl) rfl inX5 tyX5 tyX5_ok nmX5 1 (by decide) hlk rfl (ty := .long) rfl rfl rfl (Nat.le_of_ble_eq_true rfl) hdg (fun H1 locs1 hB => kk H1 locs1 (gw_B.to hB (rc_L)))
theorem og_0 (F : gw_F p m c cc s args own) (hK : gw_K G s) (hC : cB G A adr n S Y L H0 H locs)  {index : Nat} (hlk : Cond.fieldLink own index "ClassStarts" "kinds" "[LClassStarts$Kind;" ∈ gwA) (hdg : decode cc pc = .ok (.getfield index, 3)) (kk : W p l e R s m args below meth c H locs cells slots Q (F0 m (pc + 3) ls (.ref (adr 1) :: rest))) : W p l e R s m args below meth c H locs cells slots Q (F0 m pc ls (.ref (adr (0)) :: rest)) := gw_get F hK hC.1 (0) (rfl) rfl inX6 0 (by decide) hlk rfl hdg kk
theorem og_1 (F : gw_F p m c cc s args own) (hK : gw_K G s) (hC : cB G A adr n S Y L H0 H locs)  {index : Nat} (hlk : Cond.fieldLink own index "ClassStarts" "size" "I" ∈ gwA) (hdg : decode cc pc = .ok (.getfield index, 3)) (kk : W p l e R s m args below meth c H locs cells slots Q (F0 m (pc + 3) ls (.int (S 0 0) :: rest))) : W p l e R s m args below meth c H locs cells slots Q (F0 m pc ls (.ref (adr (0)) :: rest)) := gw_get F hK hC.1 (0) (rfl) rfl inX6 1 (by decide) hlk rfl hdg kk
theorem og_2 (F : gw_F p m c cc s args own) (hK : gw_K G s) (hC : cB G A adr n S Y L H0 H locs)  {index : Nat} (hlk : Cond.fieldLink own index "ClassStarts" "machine" "LClassStarts$Machine;" ∈ gwA) (hdg : decode cc pc = .ok (.getfield index, 3)) (kk : W p l e R s m args below meth c H locs cells slots Q (F0 m (pc + 3) ls (.ref (adr 2) :: rest))) : W p l e R s m args below meth c H locs cells slots Q (F0 m pc ls (.ref (adr (0)) :: rest)) := gw_get F hK hC.1 (0) (rfl) rfl inX6 2 (by decide) hlk rfl hdg kk
theorem og_3 (F : gw_F p m c cc s args own) (hK : gw_K G s) (hC : cB G A adr n S Y L H0 H locs)  {index : Nat} (hlk : Cond.fieldLink own index "ClassStarts" "reach" "LClassStarts$Reach;" ∈ gwA) (hdg : decode cc pc = .ok (.getfield index, 3)) (kk : W p l e R s m args below meth c H locs cells slots Q (F0 m (pc + 3) ls (.ref (adr 6) :: rest))) : W p l e R s m args below meth c H locs cells slots Q (F0 m pc ls (.ref (adr (0)) :: rest)) := gw_get F hK hC.1 (0) (rfl) rfl inX6 3 (by decide) hlk rfl hdg kk
theorem fl_ld (F : gw_F p m c cc s args own) (hK : gw_K G s) (hC : cB G A adr n S Y L H0 H locs) {x i : Nat} (hxn : x < n) (hi : i < 4) (hdg : decode cc pc = .ok (.iaload, 1)) (kk : W p l e R s m args below meth c H locs cells slots Q (F0 m (pc + 1) ls (.int (S 6 (4 * x + i)) :: rest))) : W p l e R s m args below meth c H locs cells slots Q (F0 m pc ls (.int (nI i) :: .ref (adr (nk x 2)) :: rest)) := by
  refine gw_iald F hK hC.1 (nk x 2) (N := 4) (f := clip 4 (fun i => S 6 (4 * x + i))) (ccel_k hxn (by decide)) (vp_in_nI hi (by decide)) hdg ?_
  rw [nI_clamp (by omega)]
  simp only [clip, if_pos hi]
  exact kk
theorem ct_ld (F : gw_F p m c cc s args own) (hK : gw_K G s) (hC : cB G A adr n S Y L H0 H locs) {x i : Nat} (hxn : x < n) (hi : i < 4) (hdg : decode cc pc = .ok (.baload, 1)) (kk : W p l e R s m args below meth c H locs cells slots Q (F0 m (pc + 1) ls (.int (S 7 (4 * x + i)) :: rest))) : W p l e R s m args below meth c H locs cells slots Q (F0 m pc ls (.int (nI i) :: .ref (adr (nk x 3)) :: rest)) := by
  refine gw_zald F hK hC.1 (nk x 3) (N := 4) (f := clip 4 (fun i => S 7 (4 * x + i))) (ccel_k hxn (by decide)) (vp_in_nI hi (by decide)) hdg ?_
  rw [nI_clamp (by omega)]
  simp only [clip, if_pos hi]
  exact kk
theorem rw_ld (F : gw_F p m c cc s args own) (hK : gw_K G s) (hC : cB G A adr n S Y L H0 H locs) {x i : Nat} (hxn : x < n) (hi : i < 20) (hdg : decode cc pc = .ok (.iaload, 1)) (kk : W p l e R s m args below meth c H locs cells slots Q (F0 m (pc + 1) ls (.int (S 9 (20 * x + i)) :: rest))) : W p l e R s m args below meth c H locs cells slots Q (F0 m pc ls (.int (nI i) :: .ref (adr (nk x 4)) :: rest)) := by
  refine gw_iald F hK hC.1 (nk x 4) (N := 20) (f := clip 20 (fun i => S 9 (20 * x + i))) (ccel_k hxn (by decide)) (vp_in_nI hi (by decide)) hdg ?_
  rw [nI_clamp (by omega)]
  simp only [clip, if_pos hi]
  exact kk
theorem fl_st (F : gw_F p m c cc s args own) (hK : gw_K G s) (hC : cB G A adr n S Y L H0 H locs) {x i : Nat} {v : Int32} (hxn : x < n) (hi : i < 4) (hdg : decode cc pc = .ok (.iastore, 1)) (kk : ∀ (H1 : Heap) (locs1 : List Loc), cB G A adr n (m2 S 6 (4 * x + i) v) Y L H0 H1 locs1 → W p l e R s m args below meth c H1 locs1 cells slots Q (F0 m (pc + 1) ls (rest))) : W p l e R s m args below meth c H locs cells slots Q (F0 m pc ls (.int v :: .int (nI i) :: .ref (adr (nk x 2)) :: rest)) := by
  refine gw_iast F hK hC (nk x 2) (N := 4) (f := clip 4 (fun i => S 6 (4 * x + i))) (ccel_k hxn (by decide)) (vp_in_nI hi (by decide)) hdg (fun H1 locs1 hB => ?_)
  rw [nI_clamp (by omega)] at hB
  exact kk H1 locs1 (gw_B.to hB (kc_field hxn hi))
theorem ct_st (F : gw_F p m c cc s args own) (hK : gw_K G s) (hC : cB G A adr n S Y L H0 H locs) {x i : Nat} {v : Int32} (hxn : x < n) (hi : i < 4) (hz : v = 0 ∨ v = 1) (hdg : decode cc pc = .ok (.bastore, 1)) (kk : ∀ (H1 : Heap) (locs1 : List Loc), cB G A adr n (m2 S 7 (4 * x + i) v) Y L H0 H1 locs1 → W p l e R s m args below meth c H1 locs1 cells slots Q (F0 m (pc + 1) ls (rest))) : W p l e R s m args below meth c H locs cells slots Q (F0 m pc ls (.int v :: .int (nI i) :: .ref (adr (nk x 3)) :: rest)) := by
  refine gw_zast F hK hC (nk x 3) (N := 4) (f := clip 4 (fun i => S 7 (4 * x + i))) (ccel_k hxn (by decide)) (vp_in_nI hi (by decide)) hdg (fun H1 locs1 hB => ?_)
  rw [nb_b hz, nI_clamp (by omega)] at hB
  exact kk H1 locs1 (gw_B.to hB (kc_const hxn hi))
theorem rw_st (F : gw_F p m c cc s args own) (hK : gw_K G s) (hC : cB G A adr n S Y L H0 H locs) {x i : Nat} {v : Int32} (hxn : x < n) (hi : i < 20) (hdg : decode cc pc = .ok (.iastore, 1)) (kk : ∀ (H1 : Heap) (locs1 : List Loc), cB G A adr n (m2 S 9 (20 * x + i) v) Y L H0 H1 locs1 → W p l e R s m args below meth c H1 locs1 cells slots Q (F0 m (pc + 1) ls (rest))) : W p l e R s m args below meth c H locs cells slots Q (F0 m pc ls (.int v :: .int (nI i) :: .ref (adr (nk x 4)) :: rest)) := by
  refine gw_iast F hK hC (nk x 4) (N := 20) (f := clip 20 (fun i => S 9 (20 * x + i))) (ccel_k hxn (by decide)) (vp_in_nI hi (by decide)) hdg (fun H1 locs1 hB => ?_)
  rw [nI_clamp (by omega)] at hB
  exact kk H1 locs1 (gw_B.to hB (kc_row hxn hi))
theorem so_ld (F : gw_F p m c cc s args own) (hK : gw_K G s) (hC : cB G A adr n S Y L H0 H locs) {i : Nat} (hi : i < 60) (hdg : decode cc pc = .ok (.iaload, 1)) (kk : W p l e R s m args below meth c H locs cells slots Q (F0 m (pc + 1) ls (.int (S 14 i) :: rest))) : W p l e R s m args below meth c H locs cells slots Q (F0 m pc ls (.int (nI i) :: .ref (adr 4) :: rest)) := by
  refine gw_iald F hK hC.1 4 (N := 60) (f := S 14) rfl (vp_in_nI hi (by decide)) hdg ?_
  rw [nI_clamp (by omega)]
  exact kk
theorem so_st (F : gw_F p m c cc s args own) (hK : gw_K G s) (hC : cB G A adr n S Y L H0 H locs) {i : Nat} {v : Int32} (hi : i < 60) (hdg : decode cc pc = .ok (.iastore, 1)) (kk : ∀ (H1 : Heap) (locs1 : List Loc), cB G A adr n (m2 S 14 i v) Y L H0 H1 locs1 → W p l e R s m args below meth c H1 locs1 cells slots Q (F0 m (pc + 1) ls (rest))) : W p l e R s m args below meth c H locs cells slots Q (F0 m pc ls (.int v :: .int (nI i) :: .ref (adr 4) :: rest)) := by
  refine gw_iast F hK hC 4 (N := 60) (f := S 14) rfl (vp_in_nI hi (by decide)) hdg (fun H1 locs1 hB => ?_)
  rw [nI_clamp (by omega)] at hB
  exact kk H1 locs1 (gw_B.to hB jc_S14)
theorem va_ld (F : gw_F p m c cc s args own) (hK : gw_K G s) (hC : cB G A adr n S Y L H0 H locs) {i : Nat} (hi : i < 60) (hdg : decode cc pc = .ok (.iaload, 1)) (kk : W p l e R s m args below meth c H locs cells slots Q (F0 m (pc + 1) ls (.int (S 15 i) :: rest))) : W p l e R s m args below meth c H locs cells slots Q (F0 m pc ls (.int (nI i) :: .ref (adr 5) :: rest)) := by
  refine gw_iald F hK hC.1 5 (N := 60) (f := S 15) rfl (vp_in_nI hi (by decide)) hdg ?_
  rw [nI_clamp (by omega)]
  exact kk
theorem va_st (F : gw_F p m c cc s args own) (hK : gw_K G s) (hC : cB G A adr n S Y L H0 H locs) {i : Nat} {v : Int32} (hi : i < 60) (hdg : decode cc pc = .ok (.iastore, 1)) (kk : ∀ (H1 : Heap) (locs1 : List Loc), cB G A adr n (m2 S 15 i v) Y L H0 H1 locs1 → W p l e R s m args below meth c H1 locs1 cells slots Q (F0 m (pc + 1) ls (rest))) : W p l e R s m args below meth c H locs cells slots Q (F0 m pc ls (.int v :: .int (nI i) :: .ref (adr 5) :: rest)) := by
  refine gw_iast F hK hC 5 (N := 60) (f := S 15) rfl (vp_in_nI hi (by decide)) hdg (fun H1 locs1 hB => ?_)
  rw [nI_clamp (by omega)] at hB
  exact kk H1 locs1 (gw_B.to hB jc_S15)
theorem fc_ld (F : gw_F p m c cc s args own) (hK : gw_K G s) (hC : cB G A adr n S Y L H0 H locs) {x i fc y : Nat} (hxn : x < n) (hfc : S 4 x = nI fc) (hi : i < fc) (h3 : fc ≤ 3) (hy : S 5 (3 * x + i) = nI y) (hyy : y < 12) (hdg : decode cc pc = .ok (.aaload, 1)) (kk : W p l e R s m args below meth c H locs cells slots Q (F0 m (pc + 1) ls (.ref (adr (nk y 0)) :: rest))) : W p l e R s m args below meth c H locs cells slots Q (F0 m pc ls (.int (nI i) :: .ref (adr (nk x 1)) :: rest)) := by
  refine gw_aald F hK hC.1 (nk x 1) 3 rfl (N := 3) (f := fcR adr S x) (ccel_k hxn (by decide)) (vp_in_nI (by omega) (by decide)) hdg ?_
  rw [nI_clamp (by omega)]
  rw [fcR, hfc, nI_clamp (by omega), if_pos hi, hy, nI_clamp (by omega)]
  exact kk
theorem mt_ld (F : gw_F p m c cc s args own) (hK : gw_K G s) (hC : cB G A adr n S Y L H0 H locs) {x q : Nat} (hxn : x < n) (hq : q < 4) (hdg : decode cc pc = .ok (.aaload, 1)) (kk : W p l e R s m args below meth c H locs cells slots Q (F0 m (pc + 1) ls (.ref (adr (nk x (6 + q))) :: rest))) : W p l e R s m args below meth c H locs cells slots Q (F0 m pc ls (.int (nI q) :: .ref (adr (nk x 5)) :: rest)) := by
  refine gw_aald F hK hC.1 (nk x 5) 4 rfl (N := 4) (f := mtR adr x) (ccel_k hxn (by decide)) (vp_in_nI (by omega) (by decide)) hdg ?_
  rw [nI_clamp (by omega)]
  rw [mtR, if_pos hq]
  exact kk
theorem ac_ld (F : gw_F p m c cc s args own) (hK : gw_K G s) (hC : cB G A adr n S Y L H0 H locs) {x q i ac : Nat} (hxn : x < n) (hq : q < 4) (hac : S 10 (4 * x + q) = nI ac) (hi : i < ac) (h10 : ac ≤ 10) (hdg : decode cc pc = .ok (.aaload, 1)) (kk : W p l e R s m args below meth c H locs cells slots Q (F0 m (pc + 1) ls (.ref (adr (nk x (14 + 10 * q + i))) :: rest))) : W p l e R s m args below meth c H locs cells slots Q (F0 m pc ls (.int (nI i) :: .ref (adr (nk x (10 + q))) :: rest)) := by
  refine gw_aald F hK hC.1 (nk x (10 + q)) 2 rfl (N := 10) (f := acR adr S x q) ((ccel_k hxn (by omega)).trans (kc_a hq)) (vp_in_nI (by omega) (by decide)) hdg ?_
  rw [nI_clamp (by omega)]
  rw [acR, hac, nI_clamp (by omega), if_pos hi]
  exact kk
theorem kd_ld (F : gw_F p m c cc s args own) (hK : gw_K G s) (hC : cB G A adr n S Y L H0 H locs) {i : Nat} (hi : i < n) (hn12 : n ≤ 12) (hdg : decode cc pc = .ok (.aaload, 1)) (kk : W p l e R s m args below meth c H locs cells slots Q (F0 m (pc + 1) ls (.ref (adr (nk i 0)) :: rest))) : W p l e R s m args below meth c H locs cells slots Q (F0 m pc ls (.int (nI i) :: .ref (adr (1)) :: rest)) := by
  refine gw_aald F hK hC.1 (1) 3 rfl (N := 12) (f := kdR adr n) (rfl) (vp_in_nI (by omega) (by decide)) hdg ?_
  rw [nI_clamp (by omega)]
  rw [kdR, if_pos hi]
  exact kk
theorem rm_ld (F : gw_F p m c cc s args own) (hK : gw_K G s) (hC : cB G A adr n S Y L H0 H locs) {i q : Nat} (hi : i < 48) (hq : Y 4 i = nI q) (hq2 : q < 48) (hdg : decode cc pc = .ok (.aaload, 1)) (kk : W p l e R s m args below meth c H locs cells slots Q (F0 m (pc + 1) ls (.ref (adr (nk (q / 4) (6 + q % 4))) :: rest))) : W p l e R s m args below meth c H locs cells slots Q (F0 m pc ls (.int (nI i) :: .ref (adr (7)) :: rest)) := by
  refine gw_aald F hK hC.1 (7) 4 rfl (N := 48) (f := rmR adr Y) (rfl) (vp_in_nI (by omega) (by decide)) hdg ?_
  rw [nI_clamp (by omega)]
  rw [rmR, hq, if_neg (nI_m1 (by omega)), nI_clamp (by omega)]
  exact kk
end CW
