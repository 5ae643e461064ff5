/-! CONTRACTS over the world by names, and the rows of calls -/
def gW (G : gw_G) (A : Nat → Prop) (adr : Nat → Nat) (cel : Nat → Option va_E) (U : State) : Prop := gw_P G.1 adr cel U.heap ∧ gw_D A adr cel ∧ gw_K G U
theorem gW.blind {G : gw_G} {A : Nat → Prop} {adr : Nat → Nat} {cel : Nat → Option va_E} {as : List Value} : FrameBlind (va_Pc as (gW G A adr cel)) := fun a U g mk q => by
  obtain ⟨q0, q1, q2, q3⟩ := q
  exact ⟨q0, q1, q2, gw_K.moved (u := U) (U := U.calling g mk a) (Vm.Alike.refl U.vm) q3⟩
def gQ (A : Nat → Prop) (Post : State → Prop) (res : Option Value) : Array Value → State → Outcome → State → Prop := fun _ st oc t => (oc = .returned res ∧ Post t) ∧ va_F A st t
def gm (l : Launch) (y : MethodName) (b : ByteArray) (n : Nat) (r : Option FieldType) (rm : Room) (mc ms : Nat) (A : Nat → Prop) (as : List Value) (Pre Post : State → Prop) (res : Option Value) : Prop :=
  Met l y (gw_w y b n r) rm (va_Pc as Pre) (gQ A Post res) mc ms A
/-- the words of a call site -/
def gw_cv (own : String) (index : Nat) (C : String) (y : MethodName) (b : ByteArray) (n : Nat) (r : Option FieldType) (k : Nat) : Prop :=
  Cond.methodLink own index y ∈ gwA ∧ Cond.instanceMethod y ∈ gwA ∧ Cond.selects C y y ∈ gwA ∧ Cond.initialized C ∈ gwA ∧ Cond.code y b n r ∈ gwA ∧ y.cls = C ∧ y.cls ≠ "java/lang/invoke/MethodHandle" ∧ y.cls ≠ "java/lang/invoke/VarHandle" ∧ (parseMethodDescriptor y.desc).map (fun d => d.parameters.length) = some k
def gw_cs (own : String) (index : Nat) (y : MethodName) (b : ByteArray) (n : Nat) (r : Option FieldType) (k : Nat) : Prop :=
  Cond.methodLink own index y ∈ gwA ∧ Cond.static y ∈ gwA ∧ Cond.initialized y.cls ∈ gwA ∧ Cond.code y b n r ∈ gwA ∧ y.cls ≠ "java/lang/invoke/MethodHandle" ∧ y.cls ≠ "java/lang/invoke/VarHandle" ∧ (parseMethodDescriptor y.desc).map (fun d => d.parameters.length) = some k
section GCL
variable {p : Program} {l : Launch} {e : Env} {R : Room} {s : State} {m : MethodId} {args : Array Value} {below : List Frame} {meth : Method} {c : Code} {H : Heap} {locs : List Loc} {cells slots : Nat} {Q : State → Prop}
variable {cc : ByteArray} {pc : Nat} {ls : Array Slot} {rest st0 : List Value} {G : gw_G} {A A0 : Nat → Prop} {H0 : Heap} {adr : Nat → Nat} {cel cel' : Nat → Option va_E} {own C : String}
variable {y : MethodName} {b : ByteArray} {n nL index k mc ms : Nat} {r : Option FieldType} {rm : Room} {As : List Value} {res : Option Value} {Pre Post : State → Prop} {a : Array Value}
theorem gm_call (hr : va_Run p l e R s m args below meth c H locs cells slots mc ms (F0 m pc ls st0) rest (gQ A Post res a) A) (hS : va_S A0 H0 H locs) (hA : ∀ q, A q → A0 q)
    (kk : ∀ (t : State) (H1 : Heap) (locs1 : List Loc), t.heap = H1 → s.vm.Alike t.vm → Post t → H.size ≤ H1.size → (∀ q : Nat, q < H.size → ¬ A q → H1[q]? = H[q]?) → va_S A0 H0 H1 locs1 → W p l e R s m args below meth c H1 locs1 (cells + mc) (slots + ms) Q (F0 m (pc + 3) ls (res.toList ++ rest))) : W p l e R s m args below meth c H locs cells slots Q (F0 m pc ls st0) := by
  intro T hT X
  obtain ⟨v, st₀, t, T', L, h0, X', hL, e1, e2, ⟨⟨hv, hp⟩, hz, hk⟩, st⟩ := hr T hT X
  cases hv
  rw [h0] at hz hk
  obtain ⟨t2, a1, b1⟩ := kk t T'.heap (locs ++ L) e1.symm (by rw [← e2]; exact X'.warmed.alike) hp (by rw [e1]; exact hz) (fun q h1 h2 => by rw [e1]; exact hk q h1 h2)
    ⟨Nat.le_trans hS.1 (by rw [e1]; exact hz), fun q h1 h2 => by rw [e1, hk q (Nat.lt_of_lt_of_le h1 hS.1) (fun z => h2 (hA q z))]; exact hS.2.1 q h1 h2, fun q hq => by
      rcases List.mem_append.mp hq with h | h
      · exact hS.2.2 q h
      · exact hA _ (hL q h)⟩ T' rfl X'
  exact ⟨t2, st t2 a1, b1⟩
/-- a call within one world, its names staying -/
theorem gcV (F : gw_F p m c cc s args own) (hK : gw_K G s) (hB : gw_B G A adr cel H0 H locs) (hml : c.maxLocals = nL) (cv : gw_cv own index C y b n r k) {o ci : Nat} {fs : List Value} {q : vw_C} (ho : cel o = some (.inr (ci, fs))) (hq : vwCl[ci]? = some q) (hqC : q.1 = C)
    (hM : gm l y b n r rm 0 0 A (.ref (adr o) :: As) (gW G A adr cel) (gW G A adr cel') res) (hrm : rm.cells = 0 ∧ rm.slots = 0) (hrr : rm.frames + 1 ≤ R.frames ∧ 8 + (n + 11) + rm.locals ≤ R.locals) (hn : As.length = k) (hst : st0 = As.reverse ++ .ref (adr o) :: rest) (hsize : ls.size = nL) (hroom : (rest.map fun v => v.category).sum ≤ 8) (hdg : decode cc pc = .ok (.invokevirtual index, 3)) (hf : cells ≤ R.cells ∧ slots ≤ R.slots)
    (kk : ∀ (H1 : Heap) (locs1 : List Loc), gw_B G A adr cel' H0 H1 locs1 → W p l e R s m args below meth c H1 locs1 cells slots Q (F0 m (pc + 3) ls (res.toList ++ rest))) : W p l e R s m args below meth c H locs cells slots Q (F0 m pc ls st0) := by
  subst hqC
  obtain ⟨h1, h2, h3, h4, h5, h6⟩ := cv
  refine gm_call (va_runV (As := As) (rest := rest) (b := adr o) ⟨F.1, F.2.1, hml, F.2.2.1, F.2.2.2⟩ hM (gw_cwV k F.2.2.2 h1 h2 h3 h4 h5 hrm.1 hrm.2 h6 hrr) ⟨gW.blind, gw_recv hK hB.1 ho hq, fun U hU hW => ⟨rfl, by rw [hU]; exact hB.1, hB.2.1, gw_K.moved hW.alike hK⟩⟩ rfl hn hsize hst (lv_room hroom) hdg hf) hB.2.2 (fun _ h => h) (fun t H1 locs1 ht hvm hp _ _ hS => ?_)
  exact kk H1 locs1 ⟨by rw [← ht]; exact hp.1, hp.2.1, hS⟩
theorem gcVi {v : Int32} (F : gw_F p m c cc s args own) (hK : gw_K G s) (hB : gw_B G A adr cel H0 H locs) (hml : c.maxLocals = nL) (cv : gw_cv own index C y b n r k) {o ci : Nat} {fs : List Value} {q : vw_C} (ho : cel o = some (.inr (ci, fs))) (hq : vwCl[ci]? = some q) (hqC : q.1 = C)
    (hM : gm l y b n r rm 0 0 A (.ref (adr o) :: As) (gW G A adr cel) (gW G A adr cel') (some (.int v))) (hrm : rm.cells = 0 ∧ rm.slots = 0) (hrr : rm.frames + 1 ≤ R.frames ∧ 8 + (n + 11) + rm.locals ≤ R.locals) (hn : As.length = k) (hst : st0 = As.reverse ++ .ref (adr o) :: rest) (hsize : ls.size = nL) (hroom : (rest.map fun v => v.category).sum ≤ 8) (hdg : decode cc pc = .ok (.invokevirtual index, 3)) (hf : cells ≤ R.cells ∧ slots ≤ R.slots)
    (kk : ∀ (H1 : Heap) (locs1 : List Loc), gw_B G A adr cel' H0 H1 locs1 → W p l e R s m args below meth c H1 locs1 cells slots Q (F0 m (pc + 3) ls (.int v :: rest))) : W p l e R s m args below meth c H locs cells slots Q (F0 m pc ls st0) :=
  gcV F hK hB hml cv ho hq hqC hM hrm hrr hn hst hsize hroom hdg hf kk
theorem gcVv (F : gw_F p m c cc s args own) (hK : gw_K G s) (hB : gw_B G A adr cel H0 H locs) (hml : c.maxLocals = nL) (cv : gw_cv own index C y b n r k) {o ci : Nat} {fs : List Value} {q : vw_C} (ho : cel o = some (.inr (ci, fs))) (hq : vwCl[ci]? = some q) (hqC : q.1 = C)
    (hM : gm l y b n r rm 0 0 A (.ref (adr o) :: As) (gW G A adr cel) (gW G A adr cel') none) (hrm : rm.cells = 0 ∧ rm.slots = 0) (hrr : rm.frames + 1 ≤ R.frames ∧ 8 + (n + 11) + rm.locals ≤ R.locals) (hn : As.length = k) (hst : st0 = As.reverse ++ .ref (adr o) :: rest) (hsize : ls.size = nL) (hroom : (rest.map fun v => v.category).sum ≤ 8) (hdg : decode cc pc = .ok (.invokevirtual index, 3)) (hf : cells ≤ R.cells ∧ slots ≤ R.slots)
    (kk : ∀ (H1 : Heap) (locs1 : List Loc), gw_B G A adr cel' H0 H1 locs1 → W p l e R s m args below meth c H1 locs1 cells slots Q (F0 m (pc + 3) ls rest)) : W p l e R s m args below meth c H locs cells slots Q (F0 m pc ls st0) :=
  gcV F hK hB hml cv ho hq hqC hM hrm hrr hn hst hsize hroom hdg hf kk
/-- a static method of ints alone -/
def gs (l : Launch) (y : MethodName) (b : ByteArray) (n : Nat) (r : Option FieldType) (rm : Room) (as : List Value) (v : Int32) : Prop := Met l y (gw_w y b n r) rm (va_Pc as (fun _ => True)) (vp_Si (fun x => x = v)) 0 0 (fun _ => False)
theorem gcS {v : Int32} (F : gw_F p m c cc s args own) (hml : c.maxLocals = nL) (cv : gw_cs own index y b n r k) (hM : gs l y b n r rm As v) (hrm : rm.cells = 0 ∧ rm.slots = 0) (hrr : rm.frames + 1 ≤ R.frames ∧ 8 + (n + 11) + rm.locals ≤ R.locals) (hn : As.length = k) (hst : st0 = As.reverse ++ rest) (hsize : ls.size = nL) (hroom : (rest.map fun v => v.category).sum ≤ 8) (hdg : decode cc pc = .ok (.invokestatic index, 3)) (hf : cells ≤ R.cells ∧ slots ≤ R.slots)
    (kk : W p l e R s m args below meth c H locs cells slots Q (F0 m (pc + 3) ls (.int v :: rest))) : W p l e R s m args below meth c H locs cells slots Q (F0 m pc ls st0) := by
  obtain ⟨h1, h2, h4, h5, h6⟩ := cv
  refine vp_callSi (W.runS (As := As) (rest := rest) ⟨F.1, F.2.1, hml, F.2.2.1, F.2.2.2⟩ hM (gw_cwS k F.2.2.2 h1 h2 h4 h5 hrm.1 hrm.2 h6 hrr) ⟨fun a U g mk q => q, fun U hU hW => ⟨rfl, trivial⟩⟩ rfl hn hsize hst (lv_room hroom) hdg hf) (fun r hr => ?_)
  rw [hr]
  exact kk
/-- a method's entry -/
theorem gm_of {as : List Value} (hy : plainName y.cls = true) (hyc : y.cls = own) (hlen : (lg_sl as).length ≤ n)
    (body : ∀ (p : Program) (e : Env) (s : State) (m : MethodId) (below : List Frame) (meth : Method) (c : Code) (ls : Array Slot), gw_F p m c b s as.toArray own → c.maxLocals = n → meth.sig.returnType = r → meth.locks = false → meth.name = y.name → gw_K G s → gw_B G A adr cel s.heap s.heap [] → lv_has ls n (lv_args 0 as) → W p l e rm s m as.toArray below meth c s.heap [] 0 0 (MQ below (gQ A Post res) as.toArray s mc ms A) (F0 m 0 ls [])) : gm l y b n r rm mc ms A as (gW G A adr cel) Post res := by
  refine Met.ofW (cc := b) (maxL := n) (ret := r) hy rfl ?_
  intro p e s m args below meth c s₁ B hml hv
  obtain ⟨rfl, hP, hD, hK⟩ := hv
  have hts := atoms_spec (ws := gw_w y b n r) B.pre
  have hown : s.vm.findClass own = some m.cls := by rw [← hyc]; exact findClass_of_methodNamed B.named
  rw [lg_entry_eq]
  exact body p e s m below meth c _ ⟨B.exec, B.bytes, hown, fun w hw => hts w (List.mem_cons_of_mem _ hw)⟩ hml B.returns B.notSynchronized (name_of_methodNamed B.named B.method).1 hK ⟨hP, hD, va_S.rf⟩ (lv_entry as hlen)
theorem gs_of {as : List Value} {v : Int32} (hy : plainName y.cls = true) (hyc : y.cls = own) (hlen : (lg_sl as).length ≤ n)
    (body : ∀ (p : Program) (e : Env) (s : State) (m : MethodId) (below : List Frame) (meth : Method) (c : Code) (ls : Array Slot), gw_F p m c b s as.toArray own → c.maxLocals = n → meth.sig.returnType = r → meth.locks = false → lv_has ls n (lv_args 0 as) → W p l e rm s m as.toArray below meth c s.heap [] 0 0 (MQ below (vp_Si (fun x => x = v)) as.toArray s 0 0 (fun _ => False)) (F0 m 0 ls [])) : gs l y b n r rm as v := by
  refine Met.ofW (cc := b) (maxL := n) (ret := r) hy rfl ?_
  intro p e s m args below meth c s₁ B hml hv
  obtain ⟨rfl, -⟩ := hv
  have hts := atoms_spec (ws := gw_w y b n r) B.pre
  have hown : s.vm.findClass own = some m.cls := by rw [← hyc]; exact findClass_of_methodNamed B.named
  rw [lg_entry_eq]
  exact body p e s m below meth c _ ⟨B.exec, B.bytes, hown, fun w hw => hts w (List.mem_cons_of_mem _ hw)⟩ hml B.returns B.notSynchronized (lv_entry as hlen)
/-- a method's end -/
theorem gr_i {v v' : Int32} (F : gw_F p m c cc s args own) (hr : meth.sig.returnType = some .int) (hlocks : meth.locks = false) (hK : gw_K G s) (hB : gw_B G A adr cel s.heap H locs) (hdg : decode cc pc = .ok (.ireturn, 1)) (hv : v = v') (hc : cel = cel') : W p l e R s m args below meth c H locs cells slots (MQ below (gQ A (gW G A adr cel') (some (.int v'))) args s cells slots A) (F0 m pc ls [.int v]) := by
  subst hv; subst hc
  exact W.iret F.1 F.2.1 hr (fun t ht hW => ⟨⟨rfl, by rw [ht]; exact hB.1, hB.2.1, gw_K.moved hW.alike hK⟩, hB.2.2.F ht⟩) hB.2.2.2.2 hdg (hlocks := hlocks)
theorem gr_z {v v' : Int32} (F : gw_F p m c cc s args own) (hr : meth.sig.returnType = some .boolean) (hlocks : meth.locks = false) (hK : gw_K G s) (hB : gw_B G A adr cel s.heap H locs) (hdg : decode cc pc = .ok (.ireturn, 1)) (hz : v = 0 ∨ v = 1) (hv : v = v') (hc : cel = cel') : W p l e R s m args below meth c H locs cells slots (MQ below (gQ A (gW G A adr cel') (some (.int v'))) args s cells slots A) (F0 m pc ls [.int v]) := by
  subst hv; subst hc
  exact W.zret F.1 F.2.1 hr (by rcases hz with rfl | rfl <;> rfl) (fun t ht hW => ⟨⟨rfl, by rw [ht]; exact hB.1, hB.2.1, gw_K.moved hW.alike hK⟩, hB.2.2.F ht⟩) hB.2.2.2.2 hdg (hlocks := hlocks)
theorem gr_v (F : gw_F p m c cc s args own) (hr : meth.sig.returnType = none) (hlocks : meth.locks = false) (hK : gw_K G s) (hB : gw_B G A adr cel s.heap H locs) (hdg : decode cc pc = .ok (.return_, 1)) (hc : cel = cel') : W p l e R s m args below meth c H locs cells slots (MQ below (gQ A (gW G A adr cel') none) args s cells slots A) (F0 m pc ls []) := by
  subst hc
  exact W.vret F.1 F.2.1 hr (fun t ht hW => ⟨⟨rfl, by rw [ht]; exact hB.1, hB.2.1, gw_K.moved hW.alike hK⟩, hB.2.2.F ht⟩) hB.2.2.2.2 hdg (hlocks := hlocks)
theorem gs_z {v v' : Int32} (F : gw_F p m c cc s args own) (hr : meth.sig.returnType = some .boolean) (hlocks : meth.locks = false) (hdg : decode cc pc = .ok (.ireturn, 1)) (hz : v = 0 ∨ v = 1) (hv : v = v') : W p l e R s m args below meth c s.heap [] 0 0 (MQ below (vp_Si (fun x => x = v')) args s 0 0 (fun _ => False)) (F0 m pc ls [.int v]) := by
  subst hv
  exact W.zret F.1 F.2.1 hr (by rcases hz with rfl | rfl <;> rfl) (fun t ht hW => ⟨v, rfl, rfl, ht⟩) (fun q h => by cases h) hdg (hlocks := hlocks)
/-- arithmetic on numbers that are no less than 0 -/
theorem nv_iadd {x y : Nat} (hexec : p.tables.exec = Jvm.exec) (hb : c.code = cc) (hdg : decode cc pc = .ok (.iadd, 1)) (k : W p l e R s m args below meth c H locs cells slots Q (F0 m (pc + 1) ls (.int (nI (x + y)) :: rest))) : W p l e R s m args below meth c H locs cells slots Q (F0 m pc ls (.int (nI y) :: .int (nI x) :: rest)) := lv_iadd hexec hb hdg (by rw [nI_add]; exact k)
theorem nv_imul {x y : Nat} (hexec : p.tables.exec = Jvm.exec) (hb : c.code = cc) (hdg : decode cc pc = .ok (.imul, 1)) (k : W p l e R s m args below meth c H locs cells slots Q (F0 m (pc + 1) ls (.int (nI (x * y)) :: rest))) : W p l e R s m args below meth c H locs cells slots Q (F0 m pc ls (.int (nI y) :: .int (nI x) :: rest)) := lv_imul hexec hb hdg (by rw [pk_mul]; exact k)
theorem nv_isub {x y : Nat} (h : y ≤ x) (hexec : p.tables.exec = Jvm.exec) (hb : c.code = cc) (hdg : decode cc pc = .ok (.isub, 1)) (k : W p l e R s m args below meth c H locs cells slots Q (F0 m (pc + 1) ls (.int (nI (x - y)) :: rest))) : W p l e R s m args below meth c H locs cells slots Q (F0 m pc ls (.int (nI y) :: .int (nI x) :: rest)) := lv_isub hexec hb hdg (by rw [pk_sub h]; exact k)
/-- what stands on top is said otherwise -/
theorem lv_eq {x y : Int32} (h : x = y) (k : W p l e R s m args below meth c H locs cells slots Q (F0 m pc ls (.int y :: rest))) : W p l e R s m args below meth c H locs cells slots Q (F0 m pc ls (.int x :: rest)) := h ▸ k
end GCL
