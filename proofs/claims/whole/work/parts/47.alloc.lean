/-! MAKING: worlds with a block of names that is being filled, constructors, calls that make -/
abbrev rmA (k c s : Nat) : Room := { frames := k, cells := c, slots := s, locals := 60 * k }
def gWa (G : gw_G) (A : Nat → Prop) (adr : Nat → Nat) (cel : Nat → Option va_E) (U : State) : Prop := gW G A adr cel U ∧ ∀ q, U.heap.size ≤ q → A q
theorem gWa.blind {G : gw_G} {A : Nat → Prop} {adr : Nat → Nat} {cel : Nat → Option va_E} {as : List Value} : FrameBlind (va_Pc as (gWa G A adr cel)) := fun a U g mk q => by
  obtain ⟨q0, ⟨q1, q2, q3⟩, q4⟩ := q
  exact ⟨q0, ⟨q1, q2, gw_K.moved (u := U) (U := U.calling g mk a) (Vm.Alike.refl U.vm) q3⟩, q4⟩
def gw_ci (own : String) (index : Nat) (y : MethodName) (b : ByteArray) (n k : Nat) : Prop :=
  Cond.methodLink own index y ∈ gwA ∧ Cond.instanceMethod y ∈ gwA ∧ Cond.initialized y.cls ∈ gwA ∧ Cond.code y b n none ∈ gwA ∧ y.name = "<init>" ∧ y.cls ≠ "java/lang/invoke/MethodHandle" ∧ y.cls ≠ "java/lang/invoke/VarHandle" ∧ (parseMethodDescriptor y.desc).map (fun d => d.parameters.length) = some k
section GAL
variable {p : Program} {l : Launch} {e : Env} {R : Room} {s : State} {m : MethodId} {args : Array Value} {below : List Frame} {meth : Method} {c : Code} {H : Heap} {locs : List Loc} {cells slots : Nat} {Q : State → Prop}
variable {cc : ByteArray} {pc : Nat} {ls : Array Slot} {rest st0 : List Value} {G : gw_G} {A : Nat → Prop} {H0 : Heap} {adr : Nat → Nat} {cel cel' : Nat → Option va_E} {own C : String}
variable {y : MethodName} {b : ByteArray} {n nL index k mc ms : Nat} {r : Option FieldType} {rm : Room} {As : List Value} {res : Option Value} {Pre Post : State → Prop} {a : Array Value}
theorem gm_ofA {as : List Value} (hy : plainName y.cls = true) (hyc : y.cls = own) (hlen : (lg_sl as).length ≤ n)
    (body : ∀ (p : Program) (e : Env) (s : State) (m : MethodId) (below : List Frame) (meth : Method) (c : Code) (ls : Array Slot), gw_F p m c b s as.toArray own → c.maxLocals = n → meth.sig.returnType = r → meth.locks = false → meth.name = y.name → gw_K G s → (∀ q, s.heap.size ≤ q → A q) → gw_B G A adr cel s.heap s.heap [] → lv_has ls n (lv_args 0 as) → W p l e rm s m as.toArray below meth c s.heap [] 0 0 (MQ below (gQ A Post res) as.toArray s mc ms A) (F0 m 0 ls [])) : gm l y b n r rm mc ms A as (gWa G A adr cel) Post res := by
  refine Met.ofW (cc := b) (maxL := n) (ret := r) hy rfl ?_
  intro p e s m args below meth c s₁ B hml hv
  obtain ⟨rfl, ⟨hP, hD, hK⟩, hA⟩ := hv
  have hts := atoms_spec (ws := gw_w y b n r) B.pre
  have hown : s.vm.findClass own = some m.cls := by rw [← hyc]; exact findClass_of_methodNamed B.named
  rw [lg_entry_eq]
  exact body p e s m below meth c _ ⟨B.exec, B.bytes, hown, fun w hw => hts w (List.mem_cons_of_mem _ hw)⟩ hml B.returns B.notSynchronized (name_of_methodNamed B.named B.method).1 hK hA ⟨hP, hD, va_S.rf⟩ (lv_entry as hlen)
/-- a constructor's call -/
theorem gcI {o : Nat} (F : gw_F p m c cc s args own) (hK : gw_K G s) (hA : ∀ q, H0.size ≤ q → A q) (hB : gw_B G A adr cel H0 H locs) (hml : c.maxLocals = nL) (cv : gw_ci own index y b n k)
    (hM : gm l y b n none rm mc ms A (.ref o :: As) (gWa G A adr cel) Post none) (hrm : rm.cells = mc ∧ rm.slots = ms) (hrr : rm.frames + 1 ≤ R.frames ∧ 8 + (n + 11) + rm.locals ≤ R.locals) (hn : As.length = k) (hst : st0 = As.reverse ++ .ref o :: rest) (hsize : ls.size = nL) (hroom : (rest.map fun v => v.category).sum ≤ 8) (hdg : decode cc pc = .ok (.invokespecial index, 3)) (hf : cells + mc ≤ R.cells ∧ slots + ms ≤ R.slots)
    (kk : ∀ (U : State) (H1 : Heap) (locs1 : List Loc), U.heap = H1 → Post U → va_S A H0 H1 locs1 → W p l e R s m args below meth c H1 locs1 (cells + mc) (slots + ms) Q (F0 m (pc + 3) ls rest)) : W p l e R s m args below meth c H locs cells slots Q (F0 m pc ls st0) := by
  obtain ⟨h1, h2, h4, h5, h6, h7⟩ := cv
  refine gm_call (va_runI (As := As) (rest := rest) (b := o) ⟨F.1, F.2.1, hml, F.2.2.1, F.2.2.2⟩ hM (gw_cwI k F.2.2.2 h1 h2 h4 h5 hrm.1 hrm.2 h6 h7 hrr) ⟨gWa.blind, fun U hU hW => ⟨rfl, ⟨by rw [hU]; exact hB.1, hB.2.1, gw_K.moved hW.alike hK⟩, fun q hq => hA q (Nat.le_trans hB.2.2.1 (by rw [hU] at hq; exact hq))⟩⟩ rfl hn hsize hst (lv_room hroom) hdg hf) hB.2.2 (fun _ h => h) (fun t H1 locs1 ht hvm hp _ _ hS => ?_)
  exact kk t H1 locs1 ht hp hS
/-- a call of a method that makes -/
theorem gcVa (F : gw_F p m c cc s args own) (hK : gw_K G s) (hA : ∀ q, H0.size ≤ q → A q) (hB : gw_B G A adr cel H0 H locs) (hml : c.maxLocals = nL) (cv : gw_cv own index C y b n r k) {o ci : Nat} {fs : List Value} {q : vw_C} (ho : cel o = some (.inr (ci, fs))) (hq : vwCl[ci]? = some q) (hqC : q.1 = C)
    (hM : gm l y b n r rm mc ms A (.ref (adr o) :: As) (gWa G A adr cel) Post res) (hrm : rm.cells = mc ∧ rm.slots = ms) (hrr : rm.frames + 1 ≤ R.frames ∧ 8 + (n + 11) + rm.locals ≤ R.locals) (hn : As.length = k) (hst : st0 = As.reverse ++ .ref (adr o) :: rest) (hsize : ls.size = nL) (hroom : (rest.map fun v => v.category).sum ≤ 8) (hdg : decode cc pc = .ok (.invokevirtual index, 3)) (hf : cells + mc ≤ R.cells ∧ slots + ms ≤ R.slots)
    (kk : ∀ (U : State) (H1 : Heap) (locs1 : List Loc), U.heap = H1 → Post U → va_S A H0 H1 locs1 → W p l e R s m args below meth c H1 locs1 (cells + mc) (slots + ms) Q (F0 m (pc + 3) ls (res.toList ++ rest))) : W p l e R s m args below meth c H locs cells slots Q (F0 m pc ls st0) := by
  subst hqC
  obtain ⟨h1, h2, h3, h4, h5, h6⟩ := cv
  refine gm_call (va_runV (As := As) (rest := rest) (b := adr o) ⟨F.1, F.2.1, hml, F.2.2.1, F.2.2.2⟩ hM (gw_cwV k F.2.2.2 h1 h2 h3 h4 h5 hrm.1 hrm.2 h6 hrr) ⟨gWa.blind, gw_recv hK hB.1 ho hq, fun U hU hW => ⟨rfl, ⟨by rw [hU]; exact hB.1, hB.2.1, gw_K.moved hW.alike hK⟩, fun q hq => hA q (Nat.le_trans hB.2.2.1 (by rw [hU] at hq; exact hq))⟩⟩ rfl hn hsize hst (lv_room hroom) hdg hf) hB.2.2 (fun _ h => h) (fun t H1 locs1 ht hvm hp _ _ hS => ?_)
  exact kk t H1 locs1 ht hp hS
theorem gW_back {U : State} (h : gW G A adr cel U) (hU : U.heap = H) (hS : va_S A H0 H locs) : gw_B G A adr cel H0 H locs := ⟨by rw [← hU]; exact h.1, h.2.1, hS⟩
theorem gW_end {t : State} (hK : gw_K G s) (hB : gw_B G A adr cel H0 H locs) (ht : t.heap = H) (hW : s.WarmedH t.vm) : gW G A adr cel t := ⟨by rw [ht]; exact hB.1, hB.2.1, gw_K.moved hW.alike hK⟩
theorem gr_vP (F : gw_F p m c cc s args own) (hr : meth.sig.returnType = none) (hlocks : meth.locks = false) (hK : gw_K G s) (hB : gw_B G A adr cel s.heap H locs) (hdg : decode cc pc = .ok (.return_, 1)) (hp : ∀ t, gW G A adr cel t → Post t) : W p l e R s m args below meth c H locs cells slots (MQ below (gQ A Post none) args s cells slots A) (F0 m pc ls []) :=
  W.vret F.1 F.2.1 hr (fun t ht hW => ⟨⟨rfl, hp t (gW_end hK hB ht hW)⟩, hB.2.2.F ht⟩) hB.2.2.2.2 hdg (hlocks := hlocks)
theorem gr_iP {v v' : Int32} (F : gw_F p m c cc s args own) (hr : meth.sig.returnType = some .int) (hlocks : meth.locks = false) (hK : gw_K G s) (hB : gw_B G A adr cel s.heap H locs) (hdg : decode cc pc = .ok (.ireturn, 1)) (hv : v = v') (hp : ∀ t, gW G A adr cel t → Post t) : W p l e R s m args below meth c H locs cells slots (MQ below (gQ A Post (some (.int v'))) args s cells slots A) (F0 m pc ls [.int v]) := by
  subst hv
  exact W.iret F.1 F.2.1 hr (fun t ht hW => ⟨⟨rfl, hp t (gW_end hK hB ht hW)⟩, hB.2.2.F ht⟩) hB.2.2.2.2 hdg (hlocks := hlocks)
end GAL
/-- a block of names over a base -/
def bl {α : Type} (b w : Nat) (f base : Nat → α) : Nat → α := fun k => if b ≤ k ∧ k < b + w then f (k - b) else base k
theorem bl_at {α : Type} {b w j : Nat} {f base : Nat → α} (h : j < w) : bl b w f base (b + j) = f j := by
  unfold bl
  rw [if_pos ⟨by omega, by omega⟩, Nat.add_sub_cancel_left]
theorem bl_out {α : Type} {b w k : Nat} {f base : Nat → α} (h : k < b ∨ b + w ≤ k) : bl b w f base k = base k := by
  unfold bl
  rw [if_neg (by omega)]
theorem bl_ext {α : Type} {b w : Nat} {f base g : Nat → α} (h1 : ∀ j, j < w → f j = g (b + j)) (h2 : ∀ k, k < b ∨ b + w ≤ k → base k = g k) : bl b w f base = g := by
  funext k
  by_cases h : b ≤ k ∧ k < b + w
  · rw [show k = b + (k - b) by omega, bl_at (by omega), h1 _ (by omega)]
  · rw [bl_out (by omega), h2 k (by omega)]
theorem bl_up {α : Type} {b w j : Nat} {f base : Nat → α} {x : α} (h : j < w) : va_up (bl b w f base) (b + j) x = bl b w (va_up f j x) base := by
  symm
  refine bl_ext (fun i hi => ?_) (fun k hk => ?_)
  · by_cases c : i = j
    · subst c; simp [va_up]
    · rw [show va_up (bl b w f base) (b + j) x (b + i) = bl b w f base (b + i) by simp [va_up, c], bl_at hi]
      simp [va_up, c]
  · rw [show va_up (bl b w f base) (b + j) x k = bl b w f base k by simp only [va_up]; rw [if_neg (by omega)], bl_out hk]
def lkf (L : List (Nat × va_E)) (j : Nat) : Option va_E := match L with
  | [] => none
  | (i, x) :: T => if i = j then some x else lkf T j
def lst (L : List (Nat × va_E)) (j : Nat) (e : va_E) : List (Nat × va_E) := match L with
  | [] => [(j, e)]
  | (i, x) :: T => if i = j then (i, e) :: T else (i, x) :: lst T j e
theorem lkf_up (L : List (Nat × va_E)) (j : Nat) (e : va_E) : va_up (lkf L) j (some e) = lkf (lst L j e) := by
  funext k
  induction L with
  | nil =>
    by_cases c : k = j
    · subst c; simp [va_up, lkf, lst]
    · simp [va_up, lkf, lst, c, Ne.symm c]
  | cons h T ih =>
    obtain ⟨i, x⟩ := h
    by_cases c : i = j
    · subst c
      by_cases d : k = i
      · subst d; simp [va_up, lkf, lst]
      · simp [va_up, lkf, lst, d, Ne.symm d]
    · simp only [lst, if_neg c, lkf]
      rw [← ih]
      by_cases d : k = j
      · subst d; simp [va_up, c]
      · simp [va_up, d, lkf]
def lkn (M : List (Nat × Nat)) (d : Nat → Nat) (j : Nat) : Nat := match M with
  | [] => d j
  | (i, x) :: T => if i = j then x else lkn T d j
theorem lkn_up (M : List (Nat × Nat)) (d : Nat → Nat) (j q : Nat) : va_up (lkn M d) j q = lkn ((j, q) :: M) d := by
  funext k
  by_cases c : k = j
  · subst c; simp [va_up, lkn]
  · simp [va_up, lkn, c, Ne.symm c]
abbrev bN (b w : Nat) (M : List (Nat × Nat)) (adr : Nat → Nat) : Nat → Nat := bl b w (lkn M (fun j => adr (b + j))) adr
abbrev bC (b w : Nat) (L : List (Nat × va_E)) (cel : Nat → Option va_E) : Nat → Option va_E := bl b w (lkf L) cel
theorem bN_0 (b w : Nat) (adr : Nat → Nat) : bN b w [] adr = adr := bl_ext (fun _ _ => rfl) (fun _ _ => rfl)
theorem bN_up {b w j q : Nat} {M : List (Nat × Nat)} {adr : Nat → Nat} (h : j < w) : va_up (bN b w M adr) (b + j) q = bN b w ((j, q) :: M) adr := by
  rw [bN, bl_up h, lkn_up]
theorem bC_up {b w j : Nat} {L : List (Nat × va_E)} {e : va_E} {cel : Nat → Option va_E} (h : j < w) : va_up (bC b w L cel) (b + j) (some e) = bC b w (lst L j e) cel := by
  rw [bC, bl_up h, lkf_up]
section GBL
variable {p : Program} {l : Launch} {e : Env} {R : Room} {s : State} {m : MethodId} {args : Array Value} {below : List Frame} {meth : Method} {c : Code} {H : Heap} {locs : List Loc} {cells slots : Nat} {Q : State → Prop}
variable {cc : ByteArray} {pc : Nat} {ls : Array Slot} {rest : List Value} {G : gw_G} {A : Nat → Prop} {H0 : Heap} {adr : Nat → Nat} {cel : Nat → Option va_E} {own C : String} {b w : Nat} {L L' : List (Nat × va_E)} {M : List (Nat × Nat)}
theorem gb_put (F : gw_F p m c cc s args own) (hK : gw_K G s) (hB : gw_B G A (bN b w M adr) (bC b w L cel) H0 H locs) (j : Nat) (hj : j < w) {ra ci : Nat} {fs : List Value} (he : lkf L j = some (.inr (ci, fs))) (hra : lkn M (fun j => adr (b + j)) j = ra) {C : String} {T : u_T} {N index : Nat} (hc : vwCl[ci]? = some (C, T, N)) (hin : ∀ w ∈ u_ws C T N, w ∈ gwA) (ty0 : Nat → FieldType) (hty : ∀ k, k < N → parseFieldDescriptor (T k).2.2.1 = some (ty0 k)) (hnm : ∀ a, a < N → ∀ b, b < N → a ≠ b → (T a).2.1 ≠ (T b).2.1) (k : Nat) (hk : k < N) (hlink : Cond.fieldLink own index (T k).1 (T k).2.1 (T k).2.2.1 ∈ gwA) (hfin : (T k).2.2.2 = false) {ty : FieldType} {v : Value} (hd : ty0 k = ty) (hn : narrow ty v = v) (hfit : fits ty v = true) (hl : k < fs.length) (hL : lst L j (.inr (ci, fs.set k v)) = L')
    (hdg : decode cc pc = .ok (.putfield index, 3)) (kk : ∀ (H1 : Heap) (locs1 : List Loc), gw_B G A (bN b w M adr) (bC b w L' cel) H0 H1 locs1 → W p l e R s m args below meth c H1 locs1 cells slots Q (F0 m (pc + 3) ls rest)) : W p l e R s m args below meth c H locs cells slots Q (F0 m pc ls (v :: .ref ra :: rest)) := by
  rw [show ra = bN b w M adr (b + j) from hra.symm.trans (bl_at hj).symm]
  exact gw_put F hK hB (b + j) ((bl_at hj).trans he) hc hin ty0 hty hnm k hk hlink hfin hd hn hfit hl hdg (fun H1 locs1 h => kk H1 locs1 (gw_B.to h (by rw [bC_up hj, hL])))
theorem gb_putF (F : gw_F p m c cc s args own) (hK : gw_K G s) (hB : gw_B G A (bN b w M adr) (bC b w L cel) H0 H locs) (j : Nat) (hj : j < w) {ra ci : Nat} {fs : List Value} (he : lkf L j = some (.inr (ci, fs))) (hra : lkn M (fun j => adr (b + j)) j = ra) {C : String} {T : u_T} {N index : Nat} (hc : vwCl[ci]? = some (C, T, N)) (hin : ∀ w ∈ u_ws C T N, w ∈ gwA) (ty0 : Nat → FieldType) (hty : ∀ k, k < N → parseFieldDescriptor (T k).2.2.1 = some (ty0 k)) (hnm : ∀ a, a < N → ∀ b, b < N → a ≠ b → (T a).2.1 ≠ (T b).2.1) (k : Nat) (hk : k < N) (hlink : Cond.fieldLink own index (T k).1 (T k).2.1 (T k).2.2.1 ∈ gwA) (hfin : (T k).2.2.2 = true) (hin2 : meth.name = "<init>") (hdecl : (T k).1 = own) {ty : FieldType} {v : Value} (hd : ty0 k = ty) (hn : narrow ty v = v) (hfit : fits ty v = true) (hl : k < fs.length) (hL : lst L j (.inr (ci, fs.set k v)) = L')
    (hdg : decode cc pc = .ok (.putfield index, 3)) (kk : ∀ (H1 : Heap) (locs1 : List Loc), gw_B G A (bN b w M adr) (bC b w L' cel) H0 H1 locs1 → W p l e R s m args below meth c H1 locs1 cells slots Q (F0 m (pc + 3) ls rest)) : W p l e R s m args below meth c H locs cells slots Q (F0 m pc ls (v :: .ref ra :: rest)) := by
  rw [show ra = bN b w M adr (b + j) from hra.symm.trans (bl_at hj).symm]
  exact gw_putF F hK hB (b + j) ((bl_at hj).trans he) hc hin ty0 hty hnm k hk hlink hfin hin2 hdecl hd hn hfit hl hdg (fun H1 locs1 h => kk H1 locs1 (gw_B.to h (by rw [bC_up hj, hL])))
theorem gb_get (F : gw_F p m c cc s args own) (hK : gw_K G s) (hB : gw_B G A (bN b w M adr) (bC b w L cel) H0 H locs) (j : Nat) (hj : j < w) {ra ci : Nat} {fs : List Value} (he : lkf L j = some (.inr (ci, fs))) (hra : lkn M (fun j => adr (b + j)) j = ra) {C : String} {T : u_T} {N index : Nat} (hc : vwCl[ci]? = some (C, T, N)) (hin : ∀ w ∈ u_ws C T N, w ∈ gwA) (k : Nat) (hk : k < N) (hlink : Cond.fieldLink own index (T k).1 (T k).2.1 (T k).2.2.1 ∈ gwA) {v : Value} (hv : fs[k]? = some v) (hdg : decode cc pc = .ok (.getfield index, 3))
    (kk : W p l e R s m args below meth c H locs cells slots Q (F0 m (pc + 3) ls (v :: rest))) : W p l e R s m args below meth c H locs cells slots Q (F0 m pc ls (.ref ra :: rest)) := by
  rw [show ra = bN b w M adr (b + j) from hra.symm.trans (bl_at hj).symm]
  exact gw_get F hK hB.1 (b + j) ((bl_at hj).trans he) hc hin k hk hlink hv hdg kk
theorem gb_new (F : gw_F p m c cc s args own) (hK : gw_K G s) (hA : ∀ q, H0.size ≤ q → A q) (hB : gw_B G A (bN b w M adr) (bC b w L cel) H0 H locs) (j ci : Nat) (hj : j < w) (hn : lkf L j = none) {C : String} {T : u_T} {N index : Nat} (hc : vwCl[ci]? = some (C, T, N)) (hin : ∀ w ∈ u_ws C T N, w ∈ gwA) (ty : Nat → FieldType) (hty : ∀ k, k < N → parseFieldDescriptor (T k).2.2.1 = some (ty k)) (hcl : Cond.classLink own index C ∈ gwA) (hinst : Cond.instantiable C N ∈ gwA) (hini : Cond.initialized C ∈ gwA) {fs : List Value} (hfs : ∀ j, j < N → defaultValue (ty j) = vp_V fs j) (hcells : cells + 1 ≤ R.cells) (hslots : slots + N ≤ R.slots) (hL : lst L j (.inr (ci, fs)) = L') (hdg : decode cc pc = .ok (.new index, 3))
    (kk : ∀ (q : Nat) (H1 : Heap), gw_B G A (bN b w ((j, q) :: M) adr) (bC b w L' cel) H0 H1 locs → W p l e R s m args below meth c H1 locs (cells + 1) (slots + N) Q (F0 m (pc + 3) ls (.ref q :: rest))) : W p l e R s m args below meth c H locs cells slots Q (F0 m pc ls rest) := by
  refine gw_new F hK hB hA (b + j) ci ((bl_at hj).trans hn) hc hin ty hty hcl hinst hini hfs hcells hslots hdg (fun q H1 _ h => kk q H1 ?_)
  rw [bN_up hj] at h
  exact gw_B.to h (by rw [bC_up hj, hL])
theorem gb_newa (F : gw_F p m c cc s args own) (hK : gw_K G s) (hA : ∀ q, H0.size ≤ q → A q) (hB : gw_B G A (bN b w M adr) (bC b w L cel) H0 H locs) (j t : Nat) (hj : j < w) (hn : lkf L j = none) {atype : ArrayType} (harr : Cond.arrayClass (newarray.typeOf atype) ∈ gwA) (ht : (gw_tys G)[t]? = some (G.2 t, newarray.typeOf atype)) (hnot : va_RA s (G.2 t) (newarray.typeOf atype) → s.vm.findClass ("[" ++ (newarray.typeOf atype).toString) = some (G.2 t)) {k : Int32} {N : Nat} {f : Nat → Int32} (hf : ∀ cA : ClassId, vp_cell cA (N, .inl f) = arrV cA N (fun _ => defaultValue (newarray.typeOf atype))) (hk : ¬ k < 0) (hN : k.toNatClampNeg = N) (hbytes : N * componentBytes (newarray.typeOf atype) ≤ 536870912) (hcells : cells + 1 ≤ R.cells) (hslots : slots + N ≤ R.slots) (hL : lst L j (.inl (G.2 t, N, .inl f)) = L') (hdg : decode cc pc = .ok (.newarray atype, 2))
    (kk : ∀ (q : Nat) (H1 : Heap), gw_B G A (bN b w ((j, q) :: M) adr) (bC b w L' cel) H0 H1 locs → W p l e R s m args below meth c H1 locs (cells + 1) (slots + N) Q (F0 m (pc + 2) ls (.ref q :: rest))) : W p l e R s m args below meth c H locs cells slots Q (F0 m pc ls (.int k :: rest)) := by
  refine gw_newa F hK hB hA (b + j) t ((bl_at hj).trans hn) harr ht hnot hf hk hN hbytes hcells hslots hdg (fun q H1 _ h => kk q H1 ?_)
  rw [bN_up hj] at h
  exact gw_B.to h (by rw [bC_up hj, hL])
theorem gb_newq (F : gw_F p m c cc s args own) (hK : gw_K G s) (hA : ∀ q, H0.size ≤ q → A q) (hB : gw_B G A (bN b w M adr) (bC b w L cel) H0 H locs) (j t : Nat) (hj : j < w) (hn : lkf L j = none) {C : String} {index : Nat} (hcl : Cond.classLink own index C ∈ gwA) (hover : va_AO C s) (ht : (gw_tys G)[t]? = some (G.2 t, .object C)) {k : Int32} {N : Nat} (hk : ¬ k < 0) (hN : k.toNatClampNeg = N) (hbytes : N * 4 ≤ 536870912) (hcells : cells + 1 ≤ R.cells) (hslots : slots + N ≤ R.slots) (hL : lst L j (.inl (G.2 t, N, qr (fun _ => none))) = L') (hdg : decode cc pc = .ok (.anewarray index, 3))
    (kk : ∀ (q : Nat) (H1 : Heap), gw_B G A (bN b w ((j, q) :: M) adr) (bC b w L' cel) H0 H1 locs → W p l e R s m args below meth c H1 locs (cells + 1) (slots + N) Q (F0 m (pc + 3) ls (.ref q :: rest))) : W p l e R s m args below meth c H locs cells slots Q (F0 m pc ls (.int k :: rest)) := by
  refine gw_newq F hK hB hA (b + j) t ((bl_at hj).trans hn) hcl hover ht hk hN hbytes hcells hslots hdg (fun q H1 _ h => kk q H1 ?_)
  rw [bN_up hj] at h
  exact gw_B.to h (by rw [bC_up hj, hL])
end GBL
