/-! THE WORLD BY NAMES: adr gives each name its place, cel what lies there -/
abbrev gw_G : Type := va_G × (Nat → ClassId)
def gw_tys (G : gw_G) : List (ClassId × FieldType) := [(G.2 0, .int), (G.2 1, .boolean), (G.2 2, .object RX0), (G.2 3, .object RX2), (G.2 4, .object RX4)]
def gw_K (G : gw_G) (U : State) : Prop := va_K G.1 vwCl (gw_tys G) U ∧ va_AO RX0 U ∧ va_AO RX2 U ∧ va_AO RX4 U
theorem gw_K.moved {G : gw_G} {u U : State} (hvm : u.vm.Alike U.vm) (h : gw_K G u) : gw_K G U := ⟨va_K.moved hvm h.1, va_AO.moved hvm h.2.1, va_AO.moved hvm h.2.2.1, va_AO.moved hvm h.2.2.2⟩
def gw_P (D : va_G) (adr : Nat → Nat) (cel : Nat → Option va_E) (H : Heap) : Prop := ∀ (n : Nat) (e : va_E), cel n = some e → va_at D vwCl (adr n, e) H
def gw_D (A : Nat → Prop) (adr : Nat → Nat) (cel : Nat → Option va_E) : Prop := (∀ n, cel n ≠ none → A (adr n)) ∧ ∀ n k, cel n ≠ none → cel k ≠ none → adr n = adr k → n = k
def gw_B (G : gw_G) (A : Nat → Prop) (adr : Nat → Nat) (cel : Nat → Option va_E) (H0 H : Heap) (locs : List Loc) : Prop := gw_P G.1 adr cel H ∧ gw_D A adr cel ∧ va_S A H0 H locs
def gw_F (p : Program) (m : MethodId) (c : Code) (cc : ByteArray) (s : State) (args : Array Value) (own : String) : Prop := p.tables.exec = Jvm.exec ∧ c.code = cc ∧ s.vm.findClass own = some m.cls ∧ ∀ w ∈ gwA, w.before args s = true
theorem gw_one {D : va_G} {adr : Nat → Nat} {cel : Nat → Option va_E} {H : Heap} (hP : gw_P D adr cel H) {n : Nat} {e : va_E} (he : cel n = some e) : va_P D vwCl [(adr n, e)] H := by
  intro k q hk
  have hz : k < 1 := (List.getElem?_eq_some_iff.mp hk).1
  rw [show k = 0 by omega] at hk
  cases hk
  exact hP n e he
theorem gw_P.set {D : va_G} {A : Nat → Prop} {adr : Nat → Nat} {cel : Nat → Option va_E} {H H1 : Heap} (hP : gw_P D adr cel H) (hD : gw_D A adr cel) {n : Nat} {e0 e : va_E} (hn : cel n = some e0) (he : va_at D vwCl (adr n, e) H1) (oq : ∀ q : Nat, q ≠ adr n → H1[q]? = H[q]?) : gw_P D adr (va_up cel n (some e)) H1 := by
  intro k x hk
  by_cases hkn : k = n
  · subst hkn
    simp only [va_up, if_pos] at hk
    cases hk
    exact he
  · simp only [va_up, if_neg hkn] at hk
    exact (hP k x hk).kept (oq _ (fun z => hkn (hD.2 k n (by rw [hk]; exact fun h => by cases h) (by rw [hn]; exact fun h => by cases h) z)))
theorem gw_D.set {A : Nat → Prop} {adr : Nat → Nat} {cel : Nat → Option va_E} (hD : gw_D A adr cel) {n : Nat} {e0 e : va_E} (hn : cel n = some e0) : gw_D A adr (va_up cel n (some e)) := by
  have key : ∀ k, va_up cel n (some e) k ≠ none → cel k ≠ none := by
    intro k hk
    by_cases hkn : k = n
    · subst hkn
      rw [hn]
      exact fun h => by cases h
    · simp only [va_up, if_neg hkn] at hk
      exact hk
  exact ⟨fun k hk => hD.1 k (key k hk), fun a b ha hb h => hD.2 a b (key a ha) (key b hb) h⟩
theorem gw_B.set {G : gw_G} {A : Nat → Prop} {adr : Nat → Nat} {cel : Nat → Option va_E} {H0 H H1 : Heap} {locs : List Loc} (hB : gw_B G A adr cel H0 H locs) {n j : Nat} {e0 e : va_E} (hn : cel n = some e0) (he : va_at G.1 vwCl (adr n, e) H1) (z : H1.size = H.size) (oq : ∀ q : Nat, q ≠ adr n → H1[q]? = H[q]?) : gw_B G A adr (va_up cel n (some e)) H0 H1 (locs ++ [⟨adr n, j⟩]) :=
  ⟨hB.1.set hB.2.1 hn he oq, hB.2.1.set hn, hB.2.2.put z oq (hB.2.1.1 n (by rw [hn]; exact fun h => by cases h))⟩
theorem gw_B.to {G : gw_G} {A : Nat → Prop} {adr : Nat → Nat} {cel cel' : Nat → Option va_E} {H0 H : Heap} {locs : List Loc} (hB : gw_B G A adr cel H0 H locs) (h : cel = cel') : gw_B G A adr cel' H0 H locs := h ▸ hB
/-- a new cell, under a name that had none -/
theorem gw_B.push {G : gw_G} {A : Nat → Prop} {adr : Nat → Nat} {cel : Nat → Option va_E} {H0 H H1 : Heap} {locs : List Loc} (hB : gw_B G A adr cel H0 H locs) (hA : ∀ q, H0.size ≤ q → A q) {n : Nat} {e : va_E} (hn : cel n = none) (he : va_at G.1 vwCl (H.size, e) H1) (z : H1.size = H.size + 1) (oq : ∀ q : Nat, q < H.size → H1[q]? = H[q]?) : gw_B G A (va_up adr n H.size) (va_up cel n (some e)) H0 H1 locs := by
  obtain ⟨hP, hD, hS⟩ := hB
  have hne : ∀ k, cel k ≠ none → k ≠ n := fun k hk q => hk (by rw [q]; exact hn)
  have hlt : ∀ k, cel k ≠ none → adr k < H.size := by
    intro k hk
    cases hc : cel k with
    | none => exact absurd hc hk
    | some x => exact (hP k x hc).lt
  have key : ∀ k, va_up cel n (some e) k ≠ none → k = n ∨ (k ≠ n ∧ cel k ≠ none) := by
    intro k hk
    by_cases hkn : k = n
    · exact Or.inl hkn
    · simp only [va_up, if_neg hkn] at hk
      exact Or.inr ⟨hkn, hk⟩
  refine ⟨fun k x hk => ?_, ⟨fun k hk => ?_, fun a b ha hb h => ?_⟩, ⟨Nat.le_trans hS.1 (by omega), fun q h1 h2 => (oq q (Nat.lt_of_lt_of_le h1 hS.1)).trans (hS.2.1 q h1 h2), hS.2.2⟩⟩
  · by_cases hkn : k = n
    · subst hkn
      simp only [va_up, if_pos] at hk
      cases hk
      simp only [va_up, if_pos]
      exact he
    · simp only [va_up, if_neg hkn] at hk ⊢
      exact (hP k x hk).kept (oq _ (hlt k (by rw [hk]; exact fun h => by cases h)))
  · rcases key k hk with h | ⟨h, h2⟩
    · subst h
      simp only [va_up, if_pos]
      exact hA _ hS.1
    · simp only [va_up, if_neg h]
      exact hD.1 k h2
  · rcases key a ha with h1 | ⟨h1, g1⟩ <;> rcases key b hb with h2 | ⟨h2, g2⟩
    · rw [h1, h2]
    · exfalso
      subst h1
      simp only [va_up, if_pos, if_neg h2] at h
      exact absurd (hlt b g2) (by omega)
    · exfalso
      subst h2
      simp only [va_up, if_pos, if_neg h1] at h
      exact absurd (hlt a g1) (by omega)
    · simp only [va_up, if_neg h1, if_neg h2] at h
      exact hD.2 a b g1 g2 h
section GW
variable {p : Program} {l : Launch} {e : Env} {R : Room} {s : State} {m : MethodId} {args : Array Value} {below : List Frame} {meth : Method} {c : Code} {H : Heap} {locs : List Loc} {cells slots : Nat} {Q : State → Prop}
variable {cc : ByteArray} {pc : Nat} {ls : Array Slot} {rest : List Value} {G : gw_G} {A : Nat → Prop} {H0 : Heap} {adr : Nat → Nat} {cel : Nat → Option va_E} {own : String}
theorem gw_get (F : gw_F p m c cc s args own) (hK : gw_K G s) (hP : gw_P G.1 adr cel H) (n : Nat) {ci : Nat} {fs : List Value} (he : cel n = some (.inr (ci, fs))) {C : String} {T : u_T} {N index : Nat} (hc : vwCl[ci]? = some (C, T, N)) (hin : ∀ w ∈ u_ws C T N, w ∈ gwA) (k : Nat) (hk : k < N) (hlink : Cond.fieldLink own index (T k).1 (T k).2.1 (T k).2.2.1 ∈ gwA) {v : Value} (hv : fs[k]? = some v) (hdg : decode cc pc = .ok (.getfield index, 3))
    (kk : W p l e R s m args below meth c H locs cells slots Q (F0 m (pc + 3) ls (v :: rest))) : W p l e R s m args below meth c H locs cells slots Q (F0 m pc ls (.ref (adr n) :: rest)) :=
  va_get (ws := [(adr n, .inr (ci, fs))]) F.1 F.2.1 F.2.2.2 hin F.2.2.1 hK.1 (gw_one hP he) 0 rfl hc k hk (F.2.2.2 _ hlink) (fun _ h => h) hv hdg kk
theorem gw_put (F : gw_F p m c cc s args own) (hK : gw_K G s) (hB : gw_B G A adr cel H0 H locs) (n : Nat) {ci : Nat} {fs : List Value} (he : cel n = some (.inr (ci, fs))) {C : String} {T : u_T} {N index : Nat} (hc : vwCl[ci]? = some (C, T, N)) (hin : ∀ w ∈ u_ws C T N, w ∈ gwA) (ty0 : Nat → FieldType) (hty : ∀ k, k < N → parseFieldDescriptor (T k).2.2.1 = some (ty0 k)) (hnm : ∀ a, a < N → ∀ b, b < N → a ≠ b → (T a).2.1 ≠ (T b).2.1) (k : Nat) (hk : k < N) (hlink : Cond.fieldLink own index (T k).1 (T k).2.1 (T k).2.2.1 ∈ gwA) (hfin : (T k).2.2.2 = false) {ty : FieldType} {v : Value} (hd : ty0 k = ty) (hn : narrow ty v = v) (hfit : fits ty v = true) (hl : k < fs.length)
    (hdg : decode cc pc = .ok (.putfield index, 3)) (kk : ∀ (H1 : Heap) (locs1 : List Loc), gw_B G A adr (va_up cel n (some (.inr (ci, fs.set k v)))) H0 H1 locs1 → W p l e R s m args below meth c H1 locs1 cells slots Q (F0 m (pc + 3) ls rest)) : W p l e R s m args below meth c H locs cells slots Q (F0 m pc ls (v :: .ref (adr n) :: rest)) := by
  obtain ⟨hexec, hb, hown, hts⟩ := F
  have hap := va_apart (own := own) hts hin ty0 hty hnm hK.1 hc
  obtain ⟨r, h1, cell, q1, q2, q3, q4⟩ := hB.1 n _ he
  have hr : r = (C, T, N) := Option.some.inj (h1.symm.trans hc)
  subst hr
  obtain ⟨hS, hfc, kC, hkC, hkind⟩ := hK.1.1 ci _ hc
  obtain ⟨cf, kf, fi, f, hi, hsl⟩ := hS k hk
  have hlay := hts _ (hin _ (u_in_lay hk))
  unfold u_lay at hlay
  rw [if_neg (by rw [hfin]; decide)] at hlay
  have hst := (u_facts hfc hkC (u_lays hts hin hk) hi).1
  have h6 := u_store hfc hkC hkind hlay hi (hd ▸ hty k hk) hn hfit
  refine W.putK hexec hb (f := f) ⟨hown, hts _ hlink, ⟨_, _, _, hi⟩, hst⟩ (by rw [q2]; exact h6) q1 q3 (by rw [hsl]; exact k2_hasslot (q4 k hk)) rfl rfl hdg fun H' e1 e2 e3 => ?_
  rw [hsl] at e1 ⊢
  exact kk H' _ (hB.set he ⟨_, hc, t_OB.to (V := updV (vp_V fs) k v) ⟨_, e1, q2, q3, t_set q4 hap hk v⟩ (fun j _ => vp_updV_set hl v j)⟩ e2 e3)
theorem gw_putF (F : gw_F p m c cc s args own) (hK : gw_K G s) (hB : gw_B G A adr cel H0 H locs) (n : Nat) {ci : Nat} {fs : List Value} (he : cel n = some (.inr (ci, fs))) {C : String} {T : u_T} {N index : Nat} (hc : vwCl[ci]? = some (C, T, N)) (hin : ∀ w ∈ u_ws C T N, w ∈ gwA) (ty0 : Nat → FieldType) (hty : ∀ k, k < N → parseFieldDescriptor (T k).2.2.1 = some (ty0 k)) (hnm : ∀ a, a < N → ∀ b, b < N → a ≠ b → (T a).2.1 ≠ (T b).2.1) (k : Nat) (hk : k < N) (hlink : Cond.fieldLink own index (T k).1 (T k).2.1 (T k).2.2.1 ∈ gwA) (hfin : (T k).2.2.2 = true) (hin2 : meth.name = "<init>") (hdecl : (T k).1 = own) {ty : FieldType} {v : Value} (hd : ty0 k = ty) (hn : narrow ty v = v) (hfit : fits ty v = true) (hl : k < fs.length)
    (hdg : decode cc pc = .ok (.putfield index, 3)) (kk : ∀ (H1 : Heap) (locs1 : List Loc), gw_B G A adr (va_up cel n (some (.inr (ci, fs.set k v)))) H0 H1 locs1 → W p l e R s m args below meth c H1 locs1 cells slots Q (F0 m (pc + 3) ls rest)) : W p l e R s m args below meth c H locs cells slots Q (F0 m pc ls (v :: .ref (adr n) :: rest)) := by
  obtain ⟨hexec, hb, hown, hts⟩ := F
  have hap := va_apart (own := own) hts hin ty0 hty hnm hK.1 hc
  obtain ⟨r, h1, cell, q1, q2, q3, q4⟩ := hB.1 n _ he
  have hr : r = (C, T, N) := Option.some.inj (h1.symm.trans hc)
  subst hr
  obtain ⟨hS, hfc, kC, hkC, hkind⟩ := hK.1.1 ci _ hc
  obtain ⟨cf, kf, fi, f, hi, hsl⟩ := hS k hk
  have hlay := hts _ (hin _ (u_in_lay hk))
  unfold u_lay at hlay
  rw [if_pos hfin] at hlay
  have hst := (u_facts hfc hkC (u_lays hts hin hk) hi).1
  have hcf : m.cls = cf := by
    obtain ⟨_, _, c', _, _, _, -, -, hf', -, -, -, hown2, -⟩ := Cond.laysFinal_spec hlay
    have e1 : c' = cf := by have := hi.symm.trans hf'; simp at this; exact this.1.symm
    rw [hdecl] at hown2
    rw [← e1]; exact Option.some.inj (hown.symm.trans hown2)
  have h6 := u_fits hfc hkC hkind (Or.inr hlay) hi (hd ▸ hty k hk) hn hfit
  refine W.putFinK hexec hb hown (hts _ hlink) hi hst hcf hin2 (by rw [q2]; exact h6) q1 q3 (by rw [hsl]; exact k2_hasslot (q4 k hk)) rfl rfl hdg fun H' e1 e2 e3 => ?_
  rw [hsl] at e1 ⊢
  exact kk H' _ (hB.set he ⟨_, hc, t_OB.to (V := updV (vp_V fs) k v) ⟨_, e1, q2, q3, t_set q4 hap hk v⟩ (fun j _ => vp_updV_set hl v j)⟩ e2 e3)
theorem gw_iald (F : gw_F p m c cc s args own) (hK : gw_K G s) (hP : gw_P G.1 adr cel H) (n : Nat) {N : Nat} {f : Nat → Int32} (he : cel n = some (.inl (G.2 0, N, .inl f))) {i : Int32} (hin : vp_in i N) (hdg : decode cc pc = .ok (.iaload, 1))
    (kk : W p l e R s m args below meth c H locs cells slots Q (F0 m (pc + 1) ls (.int (f i.toNatClampNeg) :: rest))) : W p l e R s m args below meth c H locs cells slots Q (F0 m pc ls (.int i :: .ref (adr n) :: rest)) :=
  va_iald (ws := [(adr n, .inl (G.2 0, N, .inl f))]) F.1 F.2.1 hK.1 (gw_one hP he) 0 0 rfl rfl hin hdg kk
theorem gw_zald (F : gw_F p m c cc s args own) (hK : gw_K G s) (hP : gw_P G.1 adr cel H) (n : Nat) {N : Nat} {f : Nat → Int32} (he : cel n = some (.inl (G.2 1, N, .inl f))) {i : Int32} (hin : vp_in i N) (hdg : decode cc pc = .ok (.baload, 1))
    (kk : W p l e R s m args below meth c H locs cells slots Q (F0 m (pc + 1) ls (.int (f i.toNatClampNeg) :: rest))) : W p l e R s m args below meth c H locs cells slots Q (F0 m pc ls (.int i :: .ref (adr n) :: rest)) :=
  va_zald (ws := [(adr n, .inl (G.2 1, N, .inl f))]) F.1 F.2.1 hK.1 (gw_one hP he) 0 1 rfl rfl hin hdg kk
theorem gw_aald (F : gw_F p m c cc s args own) (hK : gw_K G s) (hP : gw_P G.1 adr cel H) (n t : Nat) {C : String} (ht : (gw_tys G)[t]? = some (G.2 t, .object C)) {N : Nat} {f : Nat → Option Nat} (he : cel n = some (.inl (G.2 t, N, .inr (.inr (.inr (.inr f)))))) {i : Int32} (hin : vp_in i N) (hdg : decode cc pc = .ok (.aaload, 1))
    (kk : W p l e R s m args below meth c H locs cells slots Q (F0 m (pc + 1) ls (va_rf (f i.toNatClampNeg) :: rest))) : W p l e R s m args below meth c H locs cells slots Q (F0 m pc ls (.int i :: .ref (adr n) :: rest)) :=
  va_aldq (ws := [(adr n, .inl (G.2 t, N, .inr (.inr (.inr (.inr f)))))]) F.1 F.2.1 hK.1 (gw_one hP he) 0 t rfl ht hin hdg kk
theorem gw_iast (F : gw_F p m c cc s args own) (hK : gw_K G s) (hB : gw_B G A adr cel H0 H locs) (n : Nat) {N : Nat} {f : Nat → Int32} (he : cel n = some (.inl (G.2 0, N, .inl f))) {i x : Int32} (hin : vp_in i N) (hdg : decode cc pc = .ok (.iastore, 1))
    (kk : ∀ (H1 : Heap) (locs1 : List Loc), gw_B G A adr (va_up cel n (some (.inl (G.2 0, N, .inl (va_up f i.toNatClampNeg x))))) H0 H1 locs1 → W p l e R s m args below meth c H1 locs1 cells slots Q (F0 m (pc + 1) ls rest)) : W p l e R s m args below meth c H locs cells slots Q (F0 m pc ls (.int x :: .int i :: .ref (adr n) :: rest)) := by
  refine W.iast F.1 F.2.1 (hB.1 n _ he) ((hK.1.2 0 _ rfl).1 N (fun j => .int (f j))) (fun q => by cases q) (by show ¬ (i < 0 ∨ (arrV _ _ _).slots.size ≤ _); rw [arrV_size]; exact hin) rfl rfl hdg fun H1 e z oq => ?_
  refine kk H1 _ (hB.set he ?_ z oq)
  show H1[adr n]? = some (vp_cell _ _)
  rw [e]
  rw [vp_cell_i, vp_cell_i, arrV_store]
  congr 2
  funext q
  by_cases hq : q = i.toNatClampNeg
  · subst hq
    simp [updV, va_up]
  · simp [updV, va_up, hq]
theorem gw_zast (F : gw_F p m c cc s args own) (hK : gw_K G s) (hB : gw_B G A adr cel H0 H locs) (n : Nat) {N : Nat} {f : Nat → Int32} (he : cel n = some (.inl (G.2 1, N, .inl f))) {i x : Int32} (hin : vp_in i N) (hdg : decode cc pc = .ok (.bastore, 1))
    (kk : ∀ (H1 : Heap) (locs1 : List Loc), gw_B G A adr (va_up cel n (some (.inl (G.2 1, N, .inl (va_up f i.toNatClampNeg (vp_nar .boolean x)))))) H0 H1 locs1 → W p l e R s m args below meth c H1 locs1 cells slots Q (F0 m (pc + 1) ls rest)) : W p l e R s m args below meth c H locs cells slots Q (F0 m pc ls (.int x :: .int i :: .ref (adr n) :: rest)) := by
  refine W.zast F.1 F.2.1 (hB.1 n _ he) ((hK.1.2 1 _ rfl).1 N (fun j => .int (f j))) (fun q => by cases q) (by show ¬ (i < 0 ∨ (arrV _ _ _).slots.size ≤ _); rw [arrV_size]; exact hin) rfl rfl hdg fun H1 e z oq => ?_
  refine kk H1 _ (hB.set he ?_ z oq)
  show H1[adr n]? = some (vp_cell _ _)
  rw [e]
  rw [vp_cell_i, vp_cell_i, arrV_store]
  congr 2
  funext q
  by_cases hq : q = i.toNatClampNeg
  · subst hq
    simp [updV, va_up, vp_nar]
    try rfl
  · simp [updV, va_up, hq]
/-- a reference into a row of references: v is an object of the row's class -/
theorem gw_aast (F : gw_F p m c cc s args own) (hK : gw_K G s) (hB : gw_B G A adr cel H0 H locs) (n t : Nat) {r : vw_C} (ht : (gw_tys G)[t]? = some (G.2 t, .object r.1)) {N : Nat} {f : Nat → Option Nat} (he : cel n = some (.inl (G.2 t, N, .inr (.inr (.inr (.inr f)))))) (v ci : Nat) {vs : List Value} (hv : cel v = some (.inr (ci, vs))) (hc : vwCl[ci]? = some r) {i : Int32} (hin : vp_in i N) (hdg : decode cc pc = .ok (.aastore, 1))
    (kk : ∀ (H1 : Heap) (locs1 : List Loc), gw_B G A adr (va_up cel n (some (.inl (G.2 t, N, .inr (.inr (.inr (.inr (va_up f i.toNatClampNeg (some (adr v)))))))))) H0 H1 locs1 → W p l e R s m args below meth c H1 locs1 cells slots Q (F0 m (pc + 1) ls rest)) : W p l e R s m args below meth c H locs cells slots Q (F0 m pc ls (.ref (adr v) :: .int i :: .ref (adr n) :: rest)) := by
  have hlt : i.toNatClampNeg < N := Nat.not_le.mp fun q => hin (Or.inr q)
  have h0 : ¬ i < 0 := fun q => hin (Or.inl q)
  obtain ⟨r', hr', cellV, g1, g2, g3, -⟩ := hB.1 v _ hv
  have hcls := (hK.1.1 ci r hc).2
  obtain ⟨kA, comp, k1, k2, k3, -⟩ := (hK.1.2 t _ ht).2
  have hcomp : comp = G.1.1 ci := Option.some.inj (k3.symm.trans hcls.1)
  subst hcomp
  obtain ⟨kC, hkC, -⟩ := hcls.2
  refine W.aast F.1 F.2.1 (hB.1 n _ he) (fun q h => by cases h) (fun h => by cases h) k1 k2 rfl hkC ⟨h0, by show _ < (arrV _ _ _).slots.size; rw [arrV_size]; exact hlt⟩ g1 (fun q h => by rw [g3] at h; cases h) (by rw [g2]; exact hkC) (by rw [g2]; exact va_assign hcls) rfl rfl hdg fun H1 e z oq => ?_
  refine kk H1 _ (hB.set he ?_ z oq)
  show H1[adr n]? = some (vp_cell _ _)
  rw [e]
  rw [vp_cell_q, vp_cell_q, arrV_store]
  congr 2
  funext q
  by_cases hq : q = i.toNatClampNeg
  · subst hq
    simp [updV, va_up, va_rf]
  · simp [updV, va_up, hq]
theorem gw_new (F : gw_F p m c cc s args own) (hK : gw_K G s) (hB : gw_B G A adr cel H0 H locs) (hA : ∀ q, H0.size ≤ q → A q) (n ci : Nat) (hn : cel n = none) {C : String} {T : u_T} {N index : Nat} (hc : vwCl[ci]? = some (C, T, N)) (hin : ∀ w ∈ u_ws C T N, w ∈ gwA) (ty : Nat → FieldType) (hty : ∀ k, k < N → parseFieldDescriptor (T k).2.2.1 = some (ty k)) (hcl : Cond.classLink own index C ∈ gwA) (hinst : Cond.instantiable C N ∈ gwA) (hini : Cond.initialized C ∈ gwA) {fs : List Value} (hfs : ∀ j, j < N → defaultValue (ty j) = vp_V fs j) (hcells : cells + 1 ≤ R.cells) (hslots : slots + N ≤ R.slots) (hdg : decode cc pc = .ok (.new index, 3))
    (kk : ∀ (q : Nat) (H1 : Heap), q = H.size → gw_B G A (va_up adr n q) (va_up cel n (some (.inr (ci, fs)))) H0 H1 locs → W p l e R s m args below meth c H1 locs (cells + 1) (slots + N) Q (F0 m (pc + 3) ls (.ref q :: rest))) : W p l e R s m args below meth c H locs cells slots Q (F0 m pc ls rest) := by
  obtain ⟨hexec, hb, hown, hts⟩ := F
  have hKn := hK.1.1 ci _ hc
  refine W.newcK hexec hb hown (hts _ hcl) (hts _ hinst) (hts _ hini) rfl hdg hcells hslots hKn.2.1 rfl fun H1 kC hkC e1 z1 o1 => ?_
  exact kk H.size H1 rfl (hB.push hA hn ⟨_, hc, (u_born ty hts hin hKn hkC e1 hty).to hfs⟩ z1 o1)
theorem gw_newa (F : gw_F p m c cc s args own) (hK : gw_K G s) (hB : gw_B G A adr cel H0 H locs) (hA : ∀ q, H0.size ≤ q → A q) (n t : Nat) (hn : cel n = none) {atype : ArrayType} (harr : Cond.arrayClass (newarray.typeOf atype) ∈ gwA) (ht : (gw_tys G)[t]? = some (G.2 t, newarray.typeOf atype)) (hnot : va_RA s (G.2 t) (newarray.typeOf atype) → s.vm.findClass ("[" ++ (newarray.typeOf atype).toString) = some (G.2 t)) {k : Int32} {N : Nat} {f : Nat → Int32} (hf : ∀ cA : ClassId, vp_cell cA (N, .inl f) = arrV cA N (fun _ => defaultValue (newarray.typeOf atype))) (hk : ¬ k < 0) (hN : k.toNatClampNeg = N) (hbytes : N * componentBytes (newarray.typeOf atype) ≤ 536870912) (hcells : cells + 1 ≤ R.cells) (hslots : slots + N ≤ R.slots) (hdg : decode cc pc = .ok (.newarray atype, 2))
    (kk : ∀ (q : Nat) (H1 : Heap), q = H.size → gw_B G A (va_up adr n q) (va_up cel n (some (.inl (G.2 t, N, .inl f)))) H0 H1 locs → W p l e R s m args below meth c H1 locs (cells + 1) (slots + N) Q (F0 m (pc + 2) ls (.ref q :: rest))) : W p l e R s m args below meth c H locs cells slots Q (F0 m pc ls (.int k :: rest)) := by
  obtain ⟨hexec, hb, hown, hts⟩ := F
  refine va_newaK hexec hb (hts _ harr) rfl hdg rfl hk hN hbytes hcells hslots rfl fun H1 cA e1 z1 o1 hAr hNm => ?_
  have hcA : cA = G.2 t := Option.some.inj (hNm.symm.trans (hnot (hK.1.2 t _ ht).2))
  subst hcA
  refine kk H.size H1 rfl (hB.push hA hn ?_ z1 o1)
  show H1[H.size]? = some (vp_cell _ _)
  rw [hf]
  exact e1
theorem gw_newq (F : gw_F p m c cc s args own) (hK : gw_K G s) (hB : gw_B G A adr cel H0 H locs) (hA : ∀ q, H0.size ≤ q → A q) (n t : Nat) (hn : cel n = none) {C : String} {index : Nat} (hcl : Cond.classLink own index C ∈ gwA) (hover : va_AO C s) (ht : (gw_tys G)[t]? = some (G.2 t, .object C)) {k : Int32} {N : Nat} (hk : ¬ k < 0) (hN : k.toNatClampNeg = N) (hbytes : N * 4 ≤ 536870912) (hcells : cells + 1 ≤ R.cells) (hslots : slots + N ≤ R.slots) (hdg : decode cc pc = .ok (.anewarray index, 3))
    (kk : ∀ (q : Nat) (H1 : Heap), q = H.size → gw_B G A (va_up adr n q) (va_up cel n (some (.inl (G.2 t, N, .inr (.inr (.inr (.inr (fun _ => none)))))))) H0 H1 locs → W p l e R s m args below meth c H1 locs (cells + 1) (slots + N) Q (F0 m (pc + 3) ls (.ref q :: rest))) : W p l e R s m args below meth c H locs cells slots Q (F0 m pc ls (.int k :: rest)) := by
  subst hN
  obtain ⟨hexec, hb, hown, hts⟩ := F
  refine W.anew hexec hb hown (hts _ hcl) (va_AO.use hover) rfl hdg rfl hk hbytes hcells hslots fun cA kA comp f1 f2 f3 f4 => ?_
  obtain ⟨kA', comp', -, -, -, f5⟩ := (hK.1.2 t _ ht).2
  have hcA : cA = G.2 t := Option.some.inj (f1.symm.trans f5)
  subst hcA
  generalize hH1 : H.push ({ cls := G.2 t, slots := Array.replicate k.toNatClampNeg .null, vm := .none } : Cell) = H1
  refine kk H.size H1 rfl (hB.push hA hn ?_ (by rw [← hH1, Array.size_push]) (fun q hq => by rw [← hH1, Array.getElem?_push, if_neg (Nat.ne_of_lt hq)]))
  show H1[H.size]? = some (vp_cell _ _)
  rw [vp_cell_q, ← hH1, Array.getElem?_push_size, ← arrV_new]
  rfl
theorem gw_recv (hK : gw_K G s) (hP : gw_P G.1 adr cel H) {n ci : Nat} {fs : List Value} {q : vw_C} (he : cel n = some (.inr (ci, fs))) (hc : vwCl[ci]? = some q) : ∃ cell : Cell, H[adr n]? = some cell ∧ cell.vm.isStatics = false ∧ s.vm.findClass q.1 = some cell.cls :=
  va_recv hK.1 (gw_one hP he) (ws := [(adr n, .inr (ci, fs))]) (q0 := 0) hc rfl
end GW
/-- every method's words: its code, then all the law's words -/
abbrev gw_w (y : MethodName) (b : ByteArray) (n : Nat) (r : Option FieldType) : List Cond := Cond.code y b n r :: gwA
theorem gw_good {y : MethodName} {b : ByteArray} {n : Nat} {r : Option FieldType} (h : Cond.code y b n r ∈ gwA) : GoodIn gwA (gw_w y b n r) := fun w hw => (List.mem_cons.mp hw).elim (fun q => by rw [q]; exact gWA _ h) (gWA w)
section GC
variable {s : State} {args : Array Value} {R : Room} {own C : String} {index maxL mc ms : Nat} {y : MethodName} {bytes : ByteArray} {ret : Option FieldType} {rm : Room}
theorem gw_cwV (n : Nat) (ht : ∀ w ∈ gwA, w.before args s = true) (h1 : Cond.methodLink own index y ∈ gwA) (h2 : Cond.instanceMethod y ∈ gwA) (h3 : Cond.selects C y y ∈ gwA) (h4 : Cond.initialized C ∈ gwA) (h5 : Cond.code y bytes maxL ret ∈ gwA) (hrc : rm.cells = mc) (hrs : rm.slots = ms)
    (hd : y.cls = C ∧ y.cls ≠ "java/lang/invoke/MethodHandle" ∧ y.cls ≠ "java/lang/invoke/VarHandle" ∧ (parseMethodDescriptor y.desc).map (fun d => d.parameters.length) = some n) (hR : rm.frames + 1 ≤ R.frames ∧ 8 + (maxL + 11) + rm.locals ≤ R.locals) : CallW R s args own C index y bytes maxL ret (gw_w y bytes maxL ret) rm mc ms n :=
  cwV n ht (goodIn_app (List.forall_mem_cons.mpr ⟨gWA _ h1, List.forall_mem_cons.mpr ⟨gWA _ h2, List.forall_mem_cons.mpr ⟨gWA _ h3, List.forall_mem_cons.mpr ⟨gWA _ h4, fun _ h => absurd h List.not_mem_nil⟩⟩⟩⟩) (gw_good h5)) rfl hrc hrs hd hR
theorem gw_cwI (n : Nat) (ht : ∀ w ∈ gwA, w.before args s = true) (h1 : Cond.methodLink own index y ∈ gwA) (h2 : Cond.instanceMethod y ∈ gwA) (h4 : Cond.initialized y.cls ∈ gwA) (h5 : Cond.code y bytes maxL none ∈ gwA) (hrc : rm.cells = mc) (hrs : rm.slots = ms) (hy1 : y.name = "<init>")
    (hd : y.cls ≠ "java/lang/invoke/MethodHandle" ∧ y.cls ≠ "java/lang/invoke/VarHandle" ∧ (parseMethodDescriptor y.desc).map (fun d => d.parameters.length) = some n) (hR : rm.frames + 1 ≤ R.frames ∧ 8 + (maxL + 11) + rm.locals ≤ R.locals) : CallB R s args own index y bytes maxL none (gw_w y bytes maxL none) rm mc ms n ∧ y.name = "<init>" ∧ (Cond.instanceMethod y).before args s = true :=
  cwI n ht (gw_good h5) rfl hrc hrs (ht _ h4) (ht _ h1) (ht _ h2) hy1 hd hR
theorem gw_cwS (n : Nat) (ht : ∀ w ∈ gwA, w.before args s = true) (h1 : Cond.methodLink own index y ∈ gwA) (h2 : Cond.static y ∈ gwA) (h4 : Cond.initialized y.cls ∈ gwA) (h5 : Cond.code y bytes maxL ret ∈ gwA) (hrc : rm.cells = mc) (hrs : rm.slots = ms)
    (hd : y.cls ≠ "java/lang/invoke/MethodHandle" ∧ y.cls ≠ "java/lang/invoke/VarHandle" ∧ (parseMethodDescriptor y.desc).map (fun d => d.parameters.length) = some n) (hR : rm.frames + 1 ≤ R.frames ∧ 8 + (maxL + 11) + rm.locals ≤ R.locals) : CallB R s args own index y bytes maxL ret (gw_w y bytes maxL ret) rm mc ms n ∧ (Cond.static y).before args s = true :=
  ⟨callB_of n ht (gw_good h5) rfl hrc hrs (ht _ h4) (ht _ h1) hd hR, ht _ h2⟩
end GC
