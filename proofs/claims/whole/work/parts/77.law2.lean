/-! THE LAW, 2: one call of each kind -/
/-! THE CLAIM OUT OF ONE WALK OF THE LAW'S BODY. Your part is whole_start (and what it stands on); all else here is the same for every law, but numbers. -/
def R_law : String := "ClassStartsLaw"
def lw_P (b : Addr) (xs : List Int32) (args : Array Value) (s : State) : Prop := args = #[.ref b] ∧ s.IntsAt b xs ∧ xs.length ≤ 3584 ∧ (Jvm.Cond.and given_1 narrow_1).before args s = true
def lw_Q (_ : Array Value) (s : State) (o : Outcome) (t : State) : Prop := o = .returned (some (.int 1)) ∧ Framed s o t [] 600000 7302250
def lw_Z (below : List Frame) (a : Array Value) (s : State) : State → Prop := fun t => ∃ o, t.status = .running ∧ Ended t below o ∧ lw_Q a s o t
/-- the law's own end, with 1 on the stack, nothing written that was there before, its room as the claim has it -/
theorem lw_ret {p : Program} {l : Launch} {e : Env} {s : State} {m : MethodId} {below : List Frame} {meth : Method} {c : Code} {b : Nat} (hx : p.tables.exec = Jvm.exec) (hb : c.code = code) (hr : meth.sig.returnType = ret) (hlocks : meth.locks = false) {pc : Nat} {H : Heap} {ls : Array Slot} (hdg : decode code pc = .ok (.ireturn, 1)) : W p l e room_1 s m #[Value.ref b] below meth c H [] 600000 7302250 (lw_Z below #[Value.ref b] s) (F0 m pc ls [.int 1]) := by
  intro T hT X
  obtain ⟨fs, hret, hrun, hended, hW, hframe⟩ := X.leave (v := some (.int 1)) (hlocks := hlocks) (fun h => by rw [hr] at h; cases h)
  have hmeth' : T.vm.method? m = some meth := X.method'
  refine ⟨T.setFrames fs, ?_, .returned (some (.int 1)), hrun, hended, rfl, ⟨_, rfl⟩, hW, hframe⟩
  jvm_step X.here [X.here.top, hx, hb, hdg, hmeth', hr, ret, narrow_b1]
  (try refine ⟨rfl, ?_⟩); (try refine ⟨rfl, ?_⟩)
  first | (intro acts; rw [hret _ acts rfl rfl rfl]) | rw [hret _ _ rfl rfl rfl]
  exact Steps.refl _
/-- what holds at the law's entry: the machine, the code, the tables' words (any of lw_tbl by 'hts w (by decide +kernel)'), the script of L ints xs at the cell b, what the Statement gives of the start (any of its parts by flat_of_before) -/
def lw_At (p : Program) (s : State) (m : MethodId) (meth : Method) (c : Code) (b L : Nat) (xs : Nat → Int32) : Prop :=
  p.tables.exec = Jvm.exec ∧ c.code = code ∧ meth.sig.returnType = ret ∧ c.maxLocals = 4 ∧ s.vm.findClass R_law = some m.cls ∧ (∀ w ∈ lw_tbl, w.before #[Value.ref b] s = true) ∧ va_X b L xs s s.heap ∧ b < s.heap.size ∧ meth.locks = false ∧ (Jvm.Cond.and given_1 narrow_1).before #[Value.ref b] s = true
def lNx (p : Program) (l : Launch) (e : Env) (s : State) (m : MethodId) (below : List Frame) (meth : Method) (c : Code) (b : Nat) (G : gw_G) (adr : Nat → Nat) (a0 cells slots : Nat) (ls : Array Slot) : Prop := ∀ (n : Nat) (S Y : Nat → Nat → Int32) (Lq : Int64) (X : Nat → Nat → Int32) (ad : Nat → Nat) (H : Heap) (locs : List Loc), iv n S Y X → lS G s.heap ad adr n S Y Lq S X H → va_S (fun q : Nat => s.heap.size ≤ q) s.heap H locs → ad 0 = a0 → W p l e room_1 s m #[Value.ref b] below meth c H locs cells slots (lw_Z below #[Value.ref b] s) (F0 m 618 ls [])
section LCASE
variable {p : Program} {l : Launch} {e : Env} {s : State} {m : MethodId} {below : List Frame} {meth : Method} {c : Code} {b L : Nat} {xs : Nat → Int32} {G : gw_G} {ad adr : Nat → Nat} {n : Nat} {S Y X : Nat → Nat → Int32} {Lq : Int64} {H : Heap} {locs : List Loc} {i cells slots : Nat} {ls : Array Slot}
set_option maxHeartbeats 4000000 in
set_option maxRecDepth 100000 in
theorem law_made (hL : L ≤ 3584) (C0 : lw_At p s m meth c b L xs) (hK : gw_K G s) (hi : i + 7 ≤ L) (hiv : iv n S Y X) (hlS : lS G s.heap ad adr n S Y Lq S X H) (hS : va_S (fun q : Nat => s.heap.size ≤ q) s.heap H locs) (hl : lv_has ls 4 [(0, .ref b), (1, .ref (ad 0)), (2, .ref (adr 0)), (3, .int (nI i))]) (hf : cells + 14 ≤ room_1.cells ∧ slots + 99 ≤ room_1.slots) (kk : lNx p l e s m below meth c b G adr (ad 0) (cells + 14) (slots + 99) ls) : W p l e room_1 s m #[Value.ref b] below meth c H locs cells slots (lw_Z below #[Value.ref b] s) (F0 m 112 ls []) := by
  obtain ⟨hx, hb, hr, hml, hown, hts, hX, hbl, hlocks, hgv⟩ := C0
  have F : gw_F p m c code s #[Value.ref b] RL := ⟨hx, hb, hown, fun w hw => hts w (gWL w hw)⟩
  have hbA : ¬ (fun q : Nat => s.heap.size ≤ q) b := Nat.not_le.mpr hbl
  have hin : ∀ k, k < 7 → vp_in (nI (i + k)) L := fun k hk => vp_in_nI (by omega) (by omega)
  obtain ⟨v, n2, S2, Y2, L2, X2, hiv2, okc, okr⟩ := pr_made (L := Lq) hiv (xs (nI (i + 1)).toNatClampNeg)
  refine lv_aload_n hx hb dL_law_112 rfl (lv_at hl 1 rfl) ?_
  refine lv_aload_n hx hb dL_law_113 rfl (lv_at hl 0 rfl) ?_
  refine lv_iload_n hx hb dL_law_114 rfl (lv_at hl 3 rfl) ?_
  refine lv_iconst (v := nI 1) hx hb dL_law_115 (by decide) ?_
  refine nv_iadd hx hb dL_law_116 ?_
  refine va_sld hx hb hX hbl hbA hS (hin 1 (by omega)) dL_law_117 ?_
  refine law_C F hK hS hlS hml cv_L_13 okc ⟨Nat.le_of_ble_eq_true rfl, Nat.le_of_ble_eq_true rfl⟩ rfl rfl hl.1 (Nat.le_of_ble_eq_true rfl) dL_law_118 hf (fun ad2 H1 locs1 e0 hlS hS => ?_)
  refine lv_aload_n hx hb dL_law_121 rfl (lv_at hl 2 rfl) ?_
  refine lv_aload_n hx hb dL_law_122 rfl (lv_at hl 0 rfl) ?_
  refine lv_iload_n hx hb dL_law_123 rfl (lv_at hl 3 rfl) ?_
  refine lv_iconst (v := nI 1) hx hb dL_law_124 (by decide) ?_
  refine nv_iadd hx hb dL_law_125 ?_
  refine va_sld hx hb hX hbl hbA hS (hin 1 (by omega)) dL_law_126 ?_
  refine law_R F hK hS hlS hml cv_L_17 okr ⟨Nat.le_of_ble_eq_true rfl, Nat.le_of_ble_eq_true rfl⟩ rfl rfl hl.1 (Nat.le_of_ble_eq_true rfl) dL_law_127 hf (fun H2 locs2 hlS hS => ?_)
  refine lv_icmp_eq (tgt := 618) hx hb dL_law_130 (by decide) (fun _ => ?_) (fun q => absurd rfl q)
  exact kk n2 S2 Y2 L2 X2 ad2 H2 locs2 hiv2 hlS hS e0
set_option maxHeartbeats 4000000 in
set_option maxRecDepth 100000 in
theorem law_face (hL : L ≤ 3584) (C0 : lw_At p s m meth c b L xs) (hK : gw_K G s) (hi : i + 7 ≤ L) (hiv : iv n S Y X) (hlS : lS G s.heap ad adr n S Y Lq S X H) (hS : va_S (fun q : Nat => s.heap.size ≤ q) s.heap H locs) (hl : lv_has ls 4 [(0, .ref b), (1, .ref (ad 0)), (2, .ref (adr 0)), (3, .int (nI i))]) (hf : cells + 14 ≤ room_1.cells ∧ slots + 99 ≤ room_1.slots) (kk : lNx p l e s m below meth c b G adr (ad 0) (cells + 14) (slots + 99) ls) : W p l e room_1 s m #[Value.ref b] below meth c H locs cells slots (lw_Z below #[Value.ref b] s) (F0 m 135 ls []) := by
  obtain ⟨hx, hb, hr, hml, hown, hts, hX, hbl, hlocks, hgv⟩ := C0
  have F : gw_F p m c code s #[Value.ref b] RL := ⟨hx, hb, hown, fun w hw => hts w (gWL w hw)⟩
  have hbA : ¬ (fun q : Nat => s.heap.size ≤ q) b := Nat.not_le.mpr hbl
  have hin : ∀ k, k < 7 → vp_in (nI (i + k)) L := fun k hk => vp_in_nI (by omega) (by omega)
  by_cases hz : xs (nI (i + 1)).toNatClampNeg = 0
  · obtain ⟨v, n2, S2, Y2, L2, X2, hiv2, okc, okr⟩ := pr_face (L := Lq) hiv 0 (Or.inl rfl)
    refine lv_aload_n hx hb dL_law_135 rfl (lv_at hl 1 rfl) ?_
    refine lv_aload_n hx hb dL_law_136 rfl (lv_at hl 0 rfl) ?_
    refine lv_iload_n hx hb dL_law_137 rfl (lv_at hl 3 rfl) ?_
    refine lv_iconst (v := nI 1) hx hb dL_law_138 (by decide) ?_
    refine nv_iadd hx hb dL_law_139 ?_
    refine va_sld hx hb hX hbl hbA hS (hin 1 (by omega)) dL_law_140 ?_
    refine lv_if_eq (tgt := 148) hx hb dL_law_141 (by decide) (fun _ => ?_) (fun q => absurd hz q)
    refine lv_iconst (v := 0) hx hb dL_law_148 (by decide) ?_
    refine law_C F hK hS hlS hml cv_L_18 okc ⟨Nat.le_of_ble_eq_true rfl, Nat.le_of_ble_eq_true rfl⟩ rfl rfl hl.1 (Nat.le_of_ble_eq_true rfl) dL_law_149 hf (fun ad2 H1 locs1 e0 hlS hS => ?_)
    refine lv_aload_n hx hb dL_law_152 rfl (lv_at hl 2 rfl) ?_
    refine lv_aload_n hx hb dL_law_153 rfl (lv_at hl 0 rfl) ?_
    refine lv_iload_n hx hb dL_law_154 rfl (lv_at hl 3 rfl) ?_
    refine lv_iconst (v := nI 1) hx hb dL_law_155 (by decide) ?_
    refine nv_iadd hx hb dL_law_156 ?_
    refine va_sld hx hb hX hbl hbA hS (hin 1 (by omega)) dL_law_157 ?_
    refine lv_if_eq (tgt := 165) hx hb dL_law_158 (by decide) (fun _ => ?_) (fun q => absurd hz q)
    refine lv_iconst (v := 0) hx hb dL_law_165 (by decide) ?_
    refine law_R F hK hS hlS hml cv_L_22 okr ⟨Nat.le_of_ble_eq_true rfl, Nat.le_of_ble_eq_true rfl⟩ rfl rfl hl.1 (Nat.le_of_ble_eq_true rfl) dL_law_166 hf (fun H2 locs2 hlS hS => ?_)
    refine lv_icmp_eq (tgt := 618) hx hb dL_law_169 (by decide) (fun _ => ?_) (fun q => absurd rfl q)
    exact kk n2 S2 Y2 L2 X2 ad2 H2 locs2 hiv2 hlS hS e0
  · obtain ⟨v, n2, S2, Y2, L2, X2, hiv2, okc, okr⟩ := pr_face (L := Lq) hiv 1 (Or.inr rfl)
    refine lv_aload_n hx hb dL_law_135 rfl (lv_at hl 1 rfl) ?_
    refine lv_aload_n hx hb dL_law_136 rfl (lv_at hl 0 rfl) ?_
    refine lv_iload_n hx hb dL_law_137 rfl (lv_at hl 3 rfl) ?_
    refine lv_iconst (v := nI 1) hx hb dL_law_138 (by decide) ?_
    refine nv_iadd hx hb dL_law_139 ?_
    refine va_sld hx hb hX hbl hbA hS (hin 1 (by omega)) dL_law_140 ?_
    refine lv_if_eq (tgt := 148) hx hb dL_law_141 (by decide) (fun q => absurd q hz) (fun _ => ?_)
    refine lv_iconst (v := 1) hx hb dL_law_144 (by decide) ?_
    refine lv_goto (tgt := 149) hx hb dL_law_145 (by decide) ?_
    refine law_C F hK hS hlS hml cv_L_18 okc ⟨Nat.le_of_ble_eq_true rfl, Nat.le_of_ble_eq_true rfl⟩ rfl rfl hl.1 (Nat.le_of_ble_eq_true rfl) dL_law_149 hf (fun ad2 H1 locs1 e0 hlS hS => ?_)
    refine lv_aload_n hx hb dL_law_152 rfl (lv_at hl 2 rfl) ?_
    refine lv_aload_n hx hb dL_law_153 rfl (lv_at hl 0 rfl) ?_
    refine lv_iload_n hx hb dL_law_154 rfl (lv_at hl 3 rfl) ?_
    refine lv_iconst (v := nI 1) hx hb dL_law_155 (by decide) ?_
    refine nv_iadd hx hb dL_law_156 ?_
    refine va_sld hx hb hX hbl hbA hS (hin 1 (by omega)) dL_law_157 ?_
    refine lv_if_eq (tgt := 165) hx hb dL_law_158 (by decide) (fun q => absurd q hz) (fun _ => ?_)
    refine lv_iconst (v := 1) hx hb dL_law_161 (by decide) ?_
    refine lv_goto (tgt := 166) hx hb dL_law_162 (by decide) ?_
    refine law_R F hK hS hlS hml cv_L_22 okr ⟨Nat.le_of_ble_eq_true rfl, Nat.le_of_ble_eq_true rfl⟩ rfl rfl hl.1 (Nat.le_of_ble_eq_true rfl) dL_law_166 hf (fun H2 locs2 hlS hS => ?_)
    refine lv_icmp_eq (tgt := 618) hx hb dL_law_169 (by decide) (fun _ => ?_) (fun q => absurd rfl q)
    exact kk n2 S2 Y2 L2 X2 ad2 H2 locs2 hiv2 hlS hS e0
set_option maxHeartbeats 4000000 in
set_option maxRecDepth 100000 in
theorem law_bears (hL : L ≤ 3584) (C0 : lw_At p s m meth c b L xs) (hK : gw_K G s) (hi : i + 7 ≤ L) (hiv : iv n S Y X) (hlS : lS G s.heap ad adr n S Y Lq S X H) (hS : va_S (fun q : Nat => s.heap.size ≤ q) s.heap H locs) (hl : lv_has ls 4 [(0, .ref b), (1, .ref (ad 0)), (2, .ref (adr 0)), (3, .int (nI i))]) (hf : cells + 14 ≤ room_1.cells ∧ slots + 99 ≤ room_1.slots) (kk : lNx p l e s m below meth c b G adr (ad 0) (cells + 14) (slots + 99) ls) : W p l e room_1 s m #[Value.ref b] below meth c H locs cells slots (lw_Z below #[Value.ref b] s) (F0 m 174 ls []) := by
  obtain ⟨hx, hb, hr, hml, hown, hts, hX, hbl, hlocks, hgv⟩ := C0
  have F : gw_F p m c code s #[Value.ref b] RL := ⟨hx, hb, hown, fun w hw => hts w (gWL w hw)⟩
  have hbA : ¬ (fun q : Nat => s.heap.size ≤ q) b := Nat.not_le.mpr hbl
  have hin : ∀ k, k < 7 → vp_in (nI (i + k)) L := fun k hk => vp_in_nI (by omega) (by omega)
  obtain ⟨v, n2, S2, Y2, L2, X2, hiv2, okc, okr⟩ := pr_bears (L := Lq) hiv (xs (nI (i + 1)).toNatClampNeg) (xs (nI (i + 2)).toNatClampNeg)
  refine lv_aload_n hx hb dL_law_174 rfl (lv_at hl 1 rfl) ?_
  refine lv_aload_n hx hb dL_law_175 rfl (lv_at hl 0 rfl) ?_
  refine lv_iload_n hx hb dL_law_176 rfl (lv_at hl 3 rfl) ?_
  refine lv_iconst (v := nI 1) hx hb dL_law_177 (by decide) ?_
  refine nv_iadd hx hb dL_law_178 ?_
  refine va_sld hx hb hX hbl hbA hS (hin 1 (by omega)) dL_law_179 ?_
  refine lv_aload_n hx hb dL_law_180 rfl (lv_at hl 0 rfl) ?_
  refine lv_iload_n hx hb dL_law_181 rfl (lv_at hl 3 rfl) ?_
  refine lv_iconst (v := nI 2) hx hb dL_law_182 (by decide) ?_
  refine nv_iadd hx hb dL_law_183 ?_
  refine va_sld hx hb hX hbl hbA hS (hin 2 (by omega)) dL_law_184 ?_
  refine law_C F hK hS hlS hml cv_L_23 okc ⟨Nat.le_of_ble_eq_true rfl, Nat.le_of_ble_eq_true rfl⟩ rfl rfl hl.1 (Nat.le_of_ble_eq_true rfl) dL_law_185 hf (fun ad2 H1 locs1 e0 hlS hS => ?_)
  refine lv_aload_n hx hb dL_law_188 rfl (lv_at hl 2 rfl) ?_
  refine lv_aload_n hx hb dL_law_189 rfl (lv_at hl 0 rfl) ?_
  refine lv_iload_n hx hb dL_law_190 rfl (lv_at hl 3 rfl) ?_
  refine lv_iconst (v := nI 1) hx hb dL_law_191 (by decide) ?_
  refine nv_iadd hx hb dL_law_192 ?_
  refine va_sld hx hb hX hbl hbA hS (hin 1 (by omega)) dL_law_193 ?_
  refine lv_aload_n hx hb dL_law_194 rfl (lv_at hl 0 rfl) ?_
  refine lv_iload_n hx hb dL_law_195 rfl (lv_at hl 3 rfl) ?_
  refine lv_iconst (v := nI 2) hx hb dL_law_196 (by decide) ?_
  refine nv_iadd hx hb dL_law_197 ?_
  refine va_sld hx hb hX hbl hbA hS (hin 2 (by omega)) dL_law_198 ?_
  refine law_R F hK hS hlS hml cv_L_27 okr ⟨Nat.le_of_ble_eq_true rfl, Nat.le_of_ble_eq_true rfl⟩ rfl rfl hl.1 (Nat.le_of_ble_eq_true rfl) dL_law_199 hf (fun H2 locs2 hlS hS => ?_)
  refine lv_icmp_eq (tgt := 618) hx hb dL_law_202 (by decide) (fun _ => ?_) (fun q => absurd rfl q)
  exact kk n2 S2 Y2 L2 X2 ad2 H2 locs2 hiv2 hlS hS e0
set_option maxHeartbeats 4000000 in
set_option maxRecDepth 100000 in
theorem law_constant (hL : L ≤ 3584) (C0 : lw_At p s m meth c b L xs) (hK : gw_K G s) (hi : i + 7 ≤ L) (hiv : iv n S Y X) (hlS : lS G s.heap ad adr n S Y Lq S X H) (hS : va_S (fun q : Nat => s.heap.size ≤ q) s.heap H locs) (hl : lv_has ls 4 [(0, .ref b), (1, .ref (ad 0)), (2, .ref (adr 0)), (3, .int (nI i))]) (hf : cells + 14 ≤ room_1.cells ∧ slots + 99 ≤ room_1.slots) (kk : lNx p l e s m below meth c b G adr (ad 0) (cells + 14) (slots + 99) ls) : W p l e room_1 s m #[Value.ref b] below meth c H locs cells slots (lw_Z below #[Value.ref b] s) (F0 m 207 ls []) := by
  obtain ⟨hx, hb, hr, hml, hown, hts, hX, hbl, hlocks, hgv⟩ := C0
  have F : gw_F p m c code s #[Value.ref b] RL := ⟨hx, hb, hown, fun w hw => hts w (gWL w hw)⟩
  have hbA : ¬ (fun q : Nat => s.heap.size ≤ q) b := Nat.not_le.mpr hbl
  have hin : ∀ k, k < 7 → vp_in (nI (i + k)) L := fun k hk => vp_in_nI (by omega) (by omega)
  obtain ⟨v, n2, S2, Y2, L2, X2, hiv2, okc, okr⟩ := pr_constant (L := Lq) hiv (xs (nI (i + 1)).toNatClampNeg) (xs (nI (i + 2)).toNatClampNeg) (xs (nI (i + 3)).toNatClampNeg)
  refine lv_aload_n hx hb dL_law_207 rfl (lv_at hl 1 rfl) ?_
  refine lv_aload_n hx hb dL_law_208 rfl (lv_at hl 0 rfl) ?_
  refine lv_iload_n hx hb dL_law_209 rfl (lv_at hl 3 rfl) ?_
  refine lv_iconst (v := nI 1) hx hb dL_law_210 (by decide) ?_
  refine nv_iadd hx hb dL_law_211 ?_
  refine va_sld hx hb hX hbl hbA hS (hin 1 (by omega)) dL_law_212 ?_
  refine lv_aload_n hx hb dL_law_213 rfl (lv_at hl 0 rfl) ?_
  refine lv_iload_n hx hb dL_law_214 rfl (lv_at hl 3 rfl) ?_
  refine lv_iconst (v := nI 2) hx hb dL_law_215 (by decide) ?_
  refine nv_iadd hx hb dL_law_216 ?_
  refine va_sld hx hb hX hbl hbA hS (hin 2 (by omega)) dL_law_217 ?_
  refine lv_aload_n hx hb dL_law_218 rfl (lv_at hl 0 rfl) ?_
  refine lv_iload_n hx hb dL_law_219 rfl (lv_at hl 3 rfl) ?_
  refine lv_iconst (v := nI 3) hx hb dL_law_220 (by decide) ?_
  refine nv_iadd hx hb dL_law_221 ?_
  refine va_sld hx hb hX hbl hbA hS (hin 3 (by omega)) dL_law_222 ?_
  refine law_C F hK hS hlS hml cv_L_28 okc ⟨Nat.le_of_ble_eq_true rfl, Nat.le_of_ble_eq_true rfl⟩ rfl rfl hl.1 (Nat.le_of_ble_eq_true rfl) dL_law_223 hf (fun ad2 H1 locs1 e0 hlS hS => ?_)
  refine lv_aload_n hx hb dL_law_226 rfl (lv_at hl 2 rfl) ?_
  refine lv_aload_n hx hb dL_law_227 rfl (lv_at hl 0 rfl) ?_
  refine lv_iload_n hx hb dL_law_228 rfl (lv_at hl 3 rfl) ?_
  refine lv_iconst (v := nI 1) hx hb dL_law_229 (by decide) ?_
  refine nv_iadd hx hb dL_law_230 ?_
  refine va_sld hx hb hX hbl hbA hS (hin 1 (by omega)) dL_law_231 ?_
  refine lv_aload_n hx hb dL_law_232 rfl (lv_at hl 0 rfl) ?_
  refine lv_iload_n hx hb dL_law_233 rfl (lv_at hl 3 rfl) ?_
  refine lv_iconst (v := nI 2) hx hb dL_law_234 (by decide) ?_
  refine nv_iadd hx hb dL_law_235 ?_
  refine va_sld hx hb hX hbl hbA hS (hin 2 (by omega)) dL_law_236 ?_
  refine lv_aload_n hx hb dL_law_237 rfl (lv_at hl 0 rfl) ?_
  refine lv_iload_n hx hb dL_law_238 rfl (lv_at hl 3 rfl) ?_
  refine lv_iconst (v := nI 3) hx hb dL_law_239 (by decide) ?_
  refine nv_iadd hx hb dL_law_240 ?_
  refine va_sld hx hb hX hbl hbA hS (hin 3 (by omega)) dL_law_241 ?_
  refine law_R F hK hS hlS hml cv_L_32 okr ⟨Nat.le_of_ble_eq_true rfl, Nat.le_of_ble_eq_true rfl⟩ rfl rfl hl.1 (Nat.le_of_ble_eq_true rfl) dL_law_242 hf (fun H2 locs2 hlS hS => ?_)
  refine lv_icmp_eq (tgt := 618) hx hb dL_law_245 (by decide) (fun _ => ?_) (fun q => absurd rfl q)
  exact kk n2 S2 Y2 L2 X2 ad2 H2 locs2 hiv2 hlS hS e0
set_option maxHeartbeats 4000000 in
set_option maxRecDepth 100000 in
theorem law_act (hL : L ≤ 3584) (C0 : lw_At p s m meth c b L xs) (hK : gw_K G s) (hi : i + 7 ≤ L) (hiv : iv n S Y X) (hlS : lS G s.heap ad adr n S Y Lq S X H) (hS : va_S (fun q : Nat => s.heap.size ≤ q) s.heap H locs) (hl : lv_has ls 4 [(0, .ref b), (1, .ref (ad 0)), (2, .ref (adr 0)), (3, .int (nI i))]) (hf : cells + 14 ≤ room_1.cells ∧ slots + 99 ≤ room_1.slots) (kk : lNx p l e s m below meth c b G adr (ad 0) (cells + 14) (slots + 99) ls) : W p l e room_1 s m #[Value.ref b] below meth c H locs cells slots (lw_Z below #[Value.ref b] s) (F0 m 250 ls []) := by
  obtain ⟨hx, hb, hr, hml, hown, hts, hX, hbl, hlocks, hgv⟩ := C0
  have F : gw_F p m c code s #[Value.ref b] RL := ⟨hx, hb, hown, fun w hw => hts w (gWL w hw)⟩
  have hbA : ¬ (fun q : Nat => s.heap.size ≤ q) b := Nat.not_le.mpr hbl
  have hin : ∀ k, k < 7 → vp_in (nI (i + k)) L := fun k hk => vp_in_nI (by omega) (by omega)
  obtain ⟨v, n2, S2, Y2, L2, X2, hiv2, okc, okr⟩ := pr_act (L := Lq) hiv (xs (nI (i + 1)).toNatClampNeg) (xs (nI (i + 2)).toNatClampNeg) (xs (nI (i + 3)).toNatClampNeg) (xs (nI (i + 4)).toNatClampNeg) (xs (nI (i + 5)).toNatClampNeg) (xs (nI (i + 6)).toNatClampNeg)
  refine lv_aload_n hx hb dL_law_250 rfl (lv_at hl 1 rfl) ?_
  refine lv_aload_n hx hb dL_law_251 rfl (lv_at hl 0 rfl) ?_
  refine lv_iload_n hx hb dL_law_252 rfl (lv_at hl 3 rfl) ?_
  refine lv_iconst (v := nI 1) hx hb dL_law_253 (by decide) ?_
  refine nv_iadd hx hb dL_law_254 ?_
  refine va_sld hx hb hX hbl hbA hS (hin 1 (by omega)) dL_law_255 ?_
  refine lv_aload_n hx hb dL_law_256 rfl (lv_at hl 0 rfl) ?_
  refine lv_iload_n hx hb dL_law_257 rfl (lv_at hl 3 rfl) ?_
  refine lv_iconst (v := nI 2) hx hb dL_law_258 (by decide) ?_
  refine nv_iadd hx hb dL_law_259 ?_
  refine va_sld hx hb hX hbl hbA hS (hin 2 (by omega)) dL_law_260 ?_
  refine lv_aload_n hx hb dL_law_261 rfl (lv_at hl 0 rfl) ?_
  refine lv_iload_n hx hb dL_law_262 rfl (lv_at hl 3 rfl) ?_
  refine lv_iconst (v := nI 3) hx hb dL_law_263 (by decide) ?_
  refine nv_iadd hx hb dL_law_264 ?_
  refine va_sld hx hb hX hbl hbA hS (hin 3 (by omega)) dL_law_265 ?_
  refine lv_aload_n hx hb dL_law_266 rfl (lv_at hl 0 rfl) ?_
  refine lv_iload_n hx hb dL_law_267 rfl (lv_at hl 3 rfl) ?_
  refine lv_iconst (v := nI 4) hx hb dL_law_268 (by decide) ?_
  refine nv_iadd hx hb dL_law_269 ?_
  refine va_sld hx hb hX hbl hbA hS (hin 4 (by omega)) dL_law_270 ?_
  refine lv_aload_n hx hb dL_law_271 rfl (lv_at hl 0 rfl) ?_
  refine lv_iload_n hx hb dL_law_272 rfl (lv_at hl 3 rfl) ?_
  refine lv_iconst (v := nI 5) hx hb dL_law_273 (by decide) ?_
  refine nv_iadd hx hb dL_law_274 ?_
  refine va_sld hx hb hX hbl hbA hS (hin 5 (by omega)) dL_law_275 ?_
  refine lv_aload_n hx hb dL_law_276 rfl (lv_at hl 0 rfl) ?_
  refine lv_iload_n hx hb dL_law_277 rfl (lv_at hl 3 rfl) ?_
  refine lv_bipush (v := nI 6) hx hb dL_law_278 (by decide) ?_
  refine nv_iadd hx hb dL_law_280 ?_
  refine va_sld hx hb hX hbl hbA hS (hin 6 (by omega)) dL_law_281 ?_
  refine law_C F hK hS hlS hml cv_L_33 okc ⟨Nat.le_of_ble_eq_true rfl, Nat.le_of_ble_eq_true rfl⟩ rfl rfl hl.1 (Nat.le_of_ble_eq_true rfl) dL_law_282 hf (fun ad2 H1 locs1 e0 hlS hS => ?_)
  refine lv_aload_n hx hb dL_law_285 rfl (lv_at hl 2 rfl) ?_
  refine lv_aload_n hx hb dL_law_286 rfl (lv_at hl 0 rfl) ?_
  refine lv_iload_n hx hb dL_law_287 rfl (lv_at hl 3 rfl) ?_
  refine lv_iconst (v := nI 1) hx hb dL_law_288 (by decide) ?_
  refine nv_iadd hx hb dL_law_289 ?_
  refine va_sld hx hb hX hbl hbA hS (hin 1 (by omega)) dL_law_290 ?_
  refine lv_aload_n hx hb dL_law_291 rfl (lv_at hl 0 rfl) ?_
  refine lv_iload_n hx hb dL_law_292 rfl (lv_at hl 3 rfl) ?_
  refine lv_iconst (v := nI 2) hx hb dL_law_293 (by decide) ?_
  refine nv_iadd hx hb dL_law_294 ?_
  refine va_sld hx hb hX hbl hbA hS (hin 2 (by omega)) dL_law_295 ?_
  refine lv_aload_n hx hb dL_law_296 rfl (lv_at hl 0 rfl) ?_
  refine lv_iload_n hx hb dL_law_297 rfl (lv_at hl 3 rfl) ?_
  refine lv_iconst (v := nI 3) hx hb dL_law_298 (by decide) ?_
  refine nv_iadd hx hb dL_law_299 ?_
  refine va_sld hx hb hX hbl hbA hS (hin 3 (by omega)) dL_law_300 ?_
  refine lv_aload_n hx hb dL_law_301 rfl (lv_at hl 0 rfl) ?_
  refine lv_iload_n hx hb dL_law_302 rfl (lv_at hl 3 rfl) ?_
  refine lv_iconst (v := nI 4) hx hb dL_law_303 (by decide) ?_
  refine nv_iadd hx hb dL_law_304 ?_
  refine va_sld hx hb hX hbl hbA hS (hin 4 (by omega)) dL_law_305 ?_
  refine lv_aload_n hx hb dL_law_306 rfl (lv_at hl 0 rfl) ?_
  refine lv_iload_n hx hb dL_law_307 rfl (lv_at hl 3 rfl) ?_
  refine lv_iconst (v := nI 5) hx hb dL_law_308 (by decide) ?_
  refine nv_iadd hx hb dL_law_309 ?_
  refine va_sld hx hb hX hbl hbA hS (hin 5 (by omega)) dL_law_310 ?_
  refine lv_aload_n hx hb dL_law_311 rfl (lv_at hl 0 rfl) ?_
  refine lv_iload_n hx hb dL_law_312 rfl (lv_at hl 3 rfl) ?_
  refine lv_bipush (v := nI 6) hx hb dL_law_313 (by decide) ?_
  refine nv_iadd hx hb dL_law_315 ?_
  refine va_sld hx hb hX hbl hbA hS (hin 6 (by omega)) dL_law_316 ?_
  refine law_R F hK hS hlS hml cv_L_37 okr ⟨Nat.le_of_ble_eq_true rfl, Nat.le_of_ble_eq_true rfl⟩ rfl rfl hl.1 (Nat.le_of_ble_eq_true rfl) dL_law_317 hf (fun H2 locs2 hlS hS => ?_)
  refine lv_icmp_eq (tgt := 618) hx hb dL_law_320 (by decide) (fun _ => ?_) (fun q => absurd rfl q)
  exact kk n2 S2 Y2 L2 X2 ad2 H2 locs2 hiv2 hlS hS e0
set_option maxHeartbeats 4000000 in
set_option maxRecDepth 100000 in
theorem law_run (hL : L ≤ 3584) (C0 : lw_At p s m meth c b L xs) (hK : gw_K G s) (hi : i + 7 ≤ L) (hiv : iv n S Y X) (hlS : lS G s.heap ad adr n S Y Lq S X H) (hS : va_S (fun q : Nat => s.heap.size ≤ q) s.heap H locs) (hl : lv_has ls 4 [(0, .ref b), (1, .ref (ad 0)), (2, .ref (adr 0)), (3, .int (nI i))]) (hf : cells + 14 ≤ room_1.cells ∧ slots + 99 ≤ room_1.slots) (kk : lNx p l e s m below meth c b G adr (ad 0) (cells + 14) (slots + 99) ls) : W p l e room_1 s m #[Value.ref b] below meth c H locs cells slots (lw_Z below #[Value.ref b] s) (F0 m 325 ls []) := by
  obtain ⟨hx, hb, hr, hml, hown, hts, hX, hbl, hlocks, hgv⟩ := C0
  have F : gw_F p m c code s #[Value.ref b] RL := ⟨hx, hb, hown, fun w hw => hts w (gWL w hw)⟩
  have hbA : ¬ (fun q : Nat => s.heap.size ≤ q) b := Nat.not_le.mpr hbl
  have hin : ∀ k, k < 7 → vp_in (nI (i + k)) L := fun k hk => vp_in_nI (by omega) (by omega)
  obtain ⟨v, n2, S2, Y2, L2, X2, hiv2, okc, okr⟩ := pr_run (L := Lq) hiv (xs (nI (i + 1)).toNatClampNeg) (xs (nI (i + 2)).toNatClampNeg)
  refine lv_aload_n hx hb dL_law_325 rfl (lv_at hl 1 rfl) ?_
  refine lv_aload_n hx hb dL_law_326 rfl (lv_at hl 0 rfl) ?_
  refine lv_iload_n hx hb dL_law_327 rfl (lv_at hl 3 rfl) ?_
  refine lv_iconst (v := nI 1) hx hb dL_law_328 (by decide) ?_
  refine nv_iadd hx hb dL_law_329 ?_
  refine va_sld hx hb hX hbl hbA hS (hin 1 (by omega)) dL_law_330 ?_
  refine lv_aload_n hx hb dL_law_331 rfl (lv_at hl 0 rfl) ?_
  refine lv_iload_n hx hb dL_law_332 rfl (lv_at hl 3 rfl) ?_
  refine lv_iconst (v := nI 2) hx hb dL_law_333 (by decide) ?_
  refine nv_iadd hx hb dL_law_334 ?_
  refine va_sld hx hb hX hbl hbA hS (hin 2 (by omega)) dL_law_335 ?_
  refine law_C F hK hS hlS hml cv_L_38 okc ⟨Nat.le_of_ble_eq_true rfl, Nat.le_of_ble_eq_true rfl⟩ rfl rfl hl.1 (Nat.le_of_ble_eq_true rfl) dL_law_336 hf (fun ad2 H1 locs1 e0 hlS hS => ?_)
  refine lv_aload_n hx hb dL_law_339 rfl (lv_at hl 2 rfl) ?_
  refine lv_aload_n hx hb dL_law_340 rfl (lv_at hl 0 rfl) ?_
  refine lv_iload_n hx hb dL_law_341 rfl (lv_at hl 3 rfl) ?_
  refine lv_iconst (v := nI 1) hx hb dL_law_342 (by decide) ?_
  refine nv_iadd hx hb dL_law_343 ?_
  refine va_sld hx hb hX hbl hbA hS (hin 1 (by omega)) dL_law_344 ?_
  refine lv_aload_n hx hb dL_law_345 rfl (lv_at hl 0 rfl) ?_
  refine lv_iload_n hx hb dL_law_346 rfl (lv_at hl 3 rfl) ?_
  refine lv_iconst (v := nI 2) hx hb dL_law_347 (by decide) ?_
  refine nv_iadd hx hb dL_law_348 ?_
  refine va_sld hx hb hX hbl hbA hS (hin 2 (by omega)) dL_law_349 ?_
  refine law_R F hK hS hlS hml cv_L_41 okr ⟨Nat.le_of_ble_eq_true rfl, Nat.le_of_ble_eq_true rfl⟩ rfl rfl hl.1 (Nat.le_of_ble_eq_true rfl) dL_law_350 hf (fun H2 locs2 hlS hS => ?_)
  refine lv_icmp_eq (tgt := 618) hx hb dL_law_353 (by decide) (fun _ => ?_) (fun q => absurd rfl q)
  exact kk n2 S2 Y2 L2 X2 ad2 H2 locs2 hiv2 hlS hS e0
set_option maxHeartbeats 4000000 in
set_option maxRecDepth 100000 in
theorem law_cause (hL : L ≤ 3584) (C0 : lw_At p s m meth c b L xs) (hK : gw_K G s) (hi : i + 7 ≤ L) (hiv : iv n S Y X) (hlS : lS G s.heap ad adr n S Y Lq S X H) (hS : va_S (fun q : Nat => s.heap.size ≤ q) s.heap H locs) (hl : lv_has ls 4 [(0, .ref b), (1, .ref (ad 0)), (2, .ref (adr 0)), (3, .int (nI i))]) (hf : cells + 14 ≤ room_1.cells ∧ slots + 99 ≤ room_1.slots) (kk : lNx p l e s m below meth c b G adr (ad 0) (cells + 14) (slots + 99) ls) : W p l e room_1 s m #[Value.ref b] below meth c H locs cells slots (lw_Z below #[Value.ref b] s) (F0 m 358 ls []) := by
  obtain ⟨hx, hb, hr, hml, hown, hts, hX, hbl, hlocks, hgv⟩ := C0
  have F : gw_F p m c code s #[Value.ref b] RL := ⟨hx, hb, hown, fun w hw => hts w (gWL w hw)⟩
  have hbA : ¬ (fun q : Nat => s.heap.size ≤ q) b := Nat.not_le.mpr hbl
  have hin : ∀ k, k < 7 → vp_in (nI (i + k)) L := fun k hk => vp_in_nI (by omega) (by omega)
  obtain ⟨v, n2, S2, Y2, L2, X2, hiv2, okc, okr⟩ := pr_cause (L := Lq) hiv 
  refine lv_aload_n hx hb dL_law_358 rfl (lv_at hl 1 rfl) ?_
  refine law_C F hK hS hlS hml cv_L_42 okc ⟨Nat.le_of_ble_eq_true rfl, Nat.le_of_ble_eq_true rfl⟩ rfl rfl hl.1 (Nat.le_of_ble_eq_true rfl) dL_law_359 hf (fun ad2 H1 locs1 e0 hlS hS => ?_)
  refine lv_aload_n hx hb dL_law_362 rfl (lv_at hl 2 rfl) ?_
  refine law_R F hK hS hlS hml cv_L_46 okr ⟨Nat.le_of_ble_eq_true rfl, Nat.le_of_ble_eq_true rfl⟩ rfl rfl hl.1 (Nat.le_of_ble_eq_true rfl) dL_law_363 hf (fun H2 locs2 hlS hS => ?_)
  refine lv_icmp_eq (tgt := 618) hx hb dL_law_366 (by decide) (fun _ => ?_) (fun q => absurd rfl q)
  exact kk n2 S2 Y2 L2 X2 ad2 H2 locs2 hiv2 hlS hS e0
set_option maxHeartbeats 4000000 in
set_option maxRecDepth 100000 in
theorem law_count (hL : L ≤ 3584) (C0 : lw_At p s m meth c b L xs) (hK : gw_K G s) (hi : i + 7 ≤ L) (hiv : iv n S Y X) (hlS : lS G s.heap ad adr n S Y Lq S X H) (hS : va_S (fun q : Nat => s.heap.size ≤ q) s.heap H locs) (hl : lv_has ls 4 [(0, .ref b), (1, .ref (ad 0)), (2, .ref (adr 0)), (3, .int (nI i))]) (hf : cells + 14 ≤ room_1.cells ∧ slots + 99 ≤ room_1.slots) (kk : lNx p l e s m below meth c b G adr (ad 0) (cells + 14) (slots + 99) ls) : W p l e room_1 s m #[Value.ref b] below meth c H locs cells slots (lw_Z below #[Value.ref b] s) (F0 m 371 ls []) := by
  obtain ⟨hx, hb, hr, hml, hown, hts, hX, hbl, hlocks, hgv⟩ := C0
  have F : gw_F p m c code s #[Value.ref b] RL := ⟨hx, hb, hown, fun w hw => hts w (gWL w hw)⟩
  have hbA : ¬ (fun q : Nat => s.heap.size ≤ q) b := Nat.not_le.mpr hbl
  have hin : ∀ k, k < 7 → vp_in (nI (i + k)) L := fun k hk => vp_in_nI (by omega) (by omega)
  obtain ⟨v, n2, S2, Y2, L2, X2, hiv2, okc, okr⟩ := pr_count (L := Lq) hiv (xs (nI (i + 1)).toNatClampNeg)
  refine lv_aload_n hx hb dL_law_371 rfl (lv_at hl 1 rfl) ?_
  refine lv_aload_n hx hb dL_law_372 rfl (lv_at hl 0 rfl) ?_
  refine lv_iload_n hx hb dL_law_373 rfl (lv_at hl 3 rfl) ?_
  refine lv_iconst (v := nI 1) hx hb dL_law_374 (by decide) ?_
  refine nv_iadd hx hb dL_law_375 ?_
  refine va_sld hx hb hX hbl hbA hS (hin 1 (by omega)) dL_law_376 ?_
  refine law_C F hK hS hlS hml cv_L_47 okc ⟨Nat.le_of_ble_eq_true rfl, Nat.le_of_ble_eq_true rfl⟩ rfl rfl hl.1 (Nat.le_of_ble_eq_true rfl) dL_law_377 hf (fun ad2 H1 locs1 e0 hlS hS => ?_)
  refine lv_aload_n hx hb dL_law_380 rfl (lv_at hl 2 rfl) ?_
  refine lv_aload_n hx hb dL_law_381 rfl (lv_at hl 0 rfl) ?_
  refine lv_iload_n hx hb dL_law_382 rfl (lv_at hl 3 rfl) ?_
  refine lv_iconst (v := nI 1) hx hb dL_law_383 (by decide) ?_
  refine nv_iadd hx hb dL_law_384 ?_
  refine va_sld hx hb hX hbl hbA hS (hin 1 (by omega)) dL_law_385 ?_
  refine law_R F hK hS hlS hml cv_L_50 okr ⟨Nat.le_of_ble_eq_true rfl, Nat.le_of_ble_eq_true rfl⟩ rfl rfl hl.1 (Nat.le_of_ble_eq_true rfl) dL_law_386 hf (fun H2 locs2 hlS hS => ?_)
  refine lv_icmp_eq (tgt := 618) hx hb dL_law_389 (by decide) (fun _ => ?_) (fun q => absurd rfl q)
  exact kk n2 S2 Y2 L2 X2 ad2 H2 locs2 hiv2 hlS hS e0
set_option maxHeartbeats 4000000 in
set_option maxRecDepth 100000 in
theorem law_event (hL : L ≤ 3584) (C0 : lw_At p s m meth c b L xs) (hK : gw_K G s) (hi : i + 7 ≤ L) (hiv : iv n S Y X) (hlS : lS G s.heap ad adr n S Y Lq S X H) (hS : va_S (fun q : Nat => s.heap.size ≤ q) s.heap H locs) (hl : lv_has ls 4 [(0, .ref b), (1, .ref (ad 0)), (2, .ref (adr 0)), (3, .int (nI i))]) (hf : cells + 14 ≤ room_1.cells ∧ slots + 99 ≤ room_1.slots) (kk : lNx p l e s m below meth c b G adr (ad 0) (cells + 14) (slots + 99) ls) : W p l e room_1 s m #[Value.ref b] below meth c H locs cells slots (lw_Z below #[Value.ref b] s) (F0 m 394 ls []) := by
  obtain ⟨hx, hb, hr, hml, hown, hts, hX, hbl, hlocks, hgv⟩ := C0
  have F : gw_F p m c code s #[Value.ref b] RL := ⟨hx, hb, hown, fun w hw => hts w (gWL w hw)⟩
  have hbA : ¬ (fun q : Nat => s.heap.size ≤ q) b := Nat.not_le.mpr hbl
  have hin : ∀ k, k < 7 → vp_in (nI (i + k)) L := fun k hk => vp_in_nI (by omega) (by omega)
  obtain ⟨v, n2, S2, Y2, L2, X2, hiv2, okc, okr⟩ := pr_event (L := Lq) hiv (xs (nI (i + 1)).toNatClampNeg) (xs (nI (i + 2)).toNatClampNeg)
  refine lv_aload_n hx hb dL_law_394 rfl (lv_at hl 1 rfl) ?_
  refine lv_aload_n hx hb dL_law_395 rfl (lv_at hl 0 rfl) ?_
  refine lv_iload_n hx hb dL_law_396 rfl (lv_at hl 3 rfl) ?_
  refine lv_iconst (v := nI 1) hx hb dL_law_397 (by decide) ?_
  refine nv_iadd hx hb dL_law_398 ?_
  refine va_sld hx hb hX hbl hbA hS (hin 1 (by omega)) dL_law_399 ?_
  refine lv_aload_n hx hb dL_law_400 rfl (lv_at hl 0 rfl) ?_
  refine lv_iload_n hx hb dL_law_401 rfl (lv_at hl 3 rfl) ?_
  refine lv_iconst (v := nI 2) hx hb dL_law_402 (by decide) ?_
  refine nv_iadd hx hb dL_law_403 ?_
  refine va_sld hx hb hX hbl hbA hS (hin 2 (by omega)) dL_law_404 ?_
  refine law_C F hK hS hlS hml cv_L_51 okc ⟨Nat.le_of_ble_eq_true rfl, Nat.le_of_ble_eq_true rfl⟩ rfl rfl hl.1 (Nat.le_of_ble_eq_true rfl) dL_law_405 hf (fun ad2 H1 locs1 e0 hlS hS => ?_)
  refine lv_aload_n hx hb dL_law_408 rfl (lv_at hl 2 rfl) ?_
  refine lv_aload_n hx hb dL_law_409 rfl (lv_at hl 0 rfl) ?_
  refine lv_iload_n hx hb dL_law_410 rfl (lv_at hl 3 rfl) ?_
  refine lv_iconst (v := nI 1) hx hb dL_law_411 (by decide) ?_
  refine nv_iadd hx hb dL_law_412 ?_
  refine va_sld hx hb hX hbl hbA hS (hin 1 (by omega)) dL_law_413 ?_
  refine lv_aload_n hx hb dL_law_414 rfl (lv_at hl 0 rfl) ?_
  refine lv_iload_n hx hb dL_law_415 rfl (lv_at hl 3 rfl) ?_
  refine lv_iconst (v := nI 2) hx hb dL_law_416 (by decide) ?_
  refine nv_iadd hx hb dL_law_417 ?_
  refine va_sld hx hb hX hbl hbA hS (hin 2 (by omega)) dL_law_418 ?_
  refine law_R F hK hS hlS hml cv_L_54 okr ⟨Nat.le_of_ble_eq_true rfl, Nat.le_of_ble_eq_true rfl⟩ rfl rfl hl.1 (Nat.le_of_ble_eq_true rfl) dL_law_419 hf (fun H2 locs2 hlS hS => ?_)
  refine lv_icmp_eq (tgt := 618) hx hb dL_law_422 (by decide) (fun _ => ?_) (fun q => absurd rfl q)
  exact kk n2 S2 Y2 L2 X2 ad2 H2 locs2 hiv2 hlS hS e0
set_option maxHeartbeats 4000000 in
set_option maxRecDepth 100000 in
theorem law_state (hL : L ≤ 3584) (C0 : lw_At p s m meth c b L xs) (hK : gw_K G s) (hi : i + 7 ≤ L) (hiv : iv n S Y X) (hlS : lS G s.heap ad adr n S Y Lq S X H) (hS : va_S (fun q : Nat => s.heap.size ≤ q) s.heap H locs) (hl : lv_has ls 4 [(0, .ref b), (1, .ref (ad 0)), (2, .ref (adr 0)), (3, .int (nI i))]) (hf : cells + 14 ≤ room_1.cells ∧ slots + 99 ≤ room_1.slots) (kk : lNx p l e s m below meth c b G adr (ad 0) (cells + 14) (slots + 99) ls) : W p l e room_1 s m #[Value.ref b] below meth c H locs cells slots (lw_Z below #[Value.ref b] s) (F0 m 427 ls []) := by
  obtain ⟨hx, hb, hr, hml, hown, hts, hX, hbl, hlocks, hgv⟩ := C0
  have F : gw_F p m c code s #[Value.ref b] RL := ⟨hx, hb, hown, fun w hw => hts w (gWL w hw)⟩
  have hbA : ¬ (fun q : Nat => s.heap.size ≤ q) b := Nat.not_le.mpr hbl
  have hin : ∀ k, k < 7 → vp_in (nI (i + k)) L := fun k hk => vp_in_nI (by omega) (by omega)
  obtain ⟨v, n2, S2, Y2, L2, X2, hiv2, okc, okr⟩ := pr_state (L := Lq) hiv (xs (nI (i + 1)).toNatClampNeg)
  refine lv_aload_n hx hb dL_law_427 rfl (lv_at hl 1 rfl) ?_
  refine lv_aload_n hx hb dL_law_428 rfl (lv_at hl 0 rfl) ?_
  refine lv_iload_n hx hb dL_law_429 rfl (lv_at hl 3 rfl) ?_
  refine lv_iconst (v := nI 1) hx hb dL_law_430 (by decide) ?_
  refine nv_iadd hx hb dL_law_431 ?_
  refine va_sld hx hb hX hbl hbA hS (hin 1 (by omega)) dL_law_432 ?_
  refine law_C F hK hS hlS hml cv_L_55 okc ⟨Nat.le_of_ble_eq_true rfl, Nat.le_of_ble_eq_true rfl⟩ rfl rfl hl.1 (Nat.le_of_ble_eq_true rfl) dL_law_433 hf (fun ad2 H1 locs1 e0 hlS hS => ?_)
  refine lv_aload_n hx hb dL_law_436 rfl (lv_at hl 2 rfl) ?_
  refine lv_aload_n hx hb dL_law_437 rfl (lv_at hl 0 rfl) ?_
  refine lv_iload_n hx hb dL_law_438 rfl (lv_at hl 3 rfl) ?_
  refine lv_iconst (v := nI 1) hx hb dL_law_439 (by decide) ?_
  refine nv_iadd hx hb dL_law_440 ?_
  refine va_sld hx hb hX hbl hbA hS (hin 1 (by omega)) dL_law_441 ?_
  refine law_R F hK hS hlS hml cv_L_58 okr ⟨Nat.le_of_ble_eq_true rfl, Nat.le_of_ble_eq_true rfl⟩ rfl rfl hl.1 (Nat.le_of_ble_eq_true rfl) dL_law_442 hf (fun H2 locs2 hlS hS => ?_)
  refine lv_icmp_eq (tgt := 618) hx hb dL_law_445 (by decide) (fun _ => ?_) (fun q => absurd rfl q)
  exact kk n2 S2 Y2 L2 X2 ad2 H2 locs2 hiv2 hlS hS e0
set_option maxHeartbeats 4000000 in
set_option maxRecDepth 100000 in
theorem law_field (hL : L ≤ 3584) (C0 : lw_At p s m meth c b L xs) (hK : gw_K G s) (hi : i + 7 ≤ L) (hiv : iv n S Y X) (hlS : lS G s.heap ad adr n S Y Lq S X H) (hS : va_S (fun q : Nat => s.heap.size ≤ q) s.heap H locs) (hl : lv_has ls 4 [(0, .ref b), (1, .ref (ad 0)), (2, .ref (adr 0)), (3, .int (nI i))]) (hf : cells + 14 ≤ room_1.cells ∧ slots + 99 ≤ room_1.slots) (kk : lNx p l e s m below meth c b G adr (ad 0) (cells + 14) (slots + 99) ls) : W p l e room_1 s m #[Value.ref b] below meth c H locs cells slots (lw_Z below #[Value.ref b] s) (F0 m 450 ls []) := by
  obtain ⟨hx, hb, hr, hml, hown, hts, hX, hbl, hlocks, hgv⟩ := C0
  have F : gw_F p m c code s #[Value.ref b] RL := ⟨hx, hb, hown, fun w hw => hts w (gWL w hw)⟩
  have hbA : ¬ (fun q : Nat => s.heap.size ≤ q) b := Nat.not_le.mpr hbl
  have hin : ∀ k, k < 7 → vp_in (nI (i + k)) L := fun k hk => vp_in_nI (by omega) (by omega)
  obtain ⟨v, n2, S2, Y2, L2, X2, hiv2, okc, okr⟩ := pr_field (L := Lq) hiv (xs (nI (i + 1)).toNatClampNeg) (xs (nI (i + 2)).toNatClampNeg)
  refine lv_aload_n hx hb dL_law_450 rfl (lv_at hl 1 rfl) ?_
  refine lv_aload_n hx hb dL_law_451 rfl (lv_at hl 0 rfl) ?_
  refine lv_iload_n hx hb dL_law_452 rfl (lv_at hl 3 rfl) ?_
  refine lv_iconst (v := nI 1) hx hb dL_law_453 (by decide) ?_
  refine nv_iadd hx hb dL_law_454 ?_
  refine va_sld hx hb hX hbl hbA hS (hin 1 (by omega)) dL_law_455 ?_
  refine lv_aload_n hx hb dL_law_456 rfl (lv_at hl 0 rfl) ?_
  refine lv_iload_n hx hb dL_law_457 rfl (lv_at hl 3 rfl) ?_
  refine lv_iconst (v := nI 2) hx hb dL_law_458 (by decide) ?_
  refine nv_iadd hx hb dL_law_459 ?_
  refine va_sld hx hb hX hbl hbA hS (hin 2 (by omega)) dL_law_460 ?_
  refine law_C F hK hS hlS hml cv_L_59 okc ⟨Nat.le_of_ble_eq_true rfl, Nat.le_of_ble_eq_true rfl⟩ rfl rfl hl.1 (Nat.le_of_ble_eq_true rfl) dL_law_461 hf (fun ad2 H1 locs1 e0 hlS hS => ?_)
  refine lv_aload_n hx hb dL_law_464 rfl (lv_at hl 2 rfl) ?_
  refine lv_aload_n hx hb dL_law_465 rfl (lv_at hl 0 rfl) ?_
  refine lv_iload_n hx hb dL_law_466 rfl (lv_at hl 3 rfl) ?_
  refine lv_iconst (v := nI 1) hx hb dL_law_467 (by decide) ?_
  refine nv_iadd hx hb dL_law_468 ?_
  refine va_sld hx hb hX hbl hbA hS (hin 1 (by omega)) dL_law_469 ?_
  refine lv_aload_n hx hb dL_law_470 rfl (lv_at hl 0 rfl) ?_
  refine lv_iload_n hx hb dL_law_471 rfl (lv_at hl 3 rfl) ?_
  refine lv_iconst (v := nI 2) hx hb dL_law_472 (by decide) ?_
  refine nv_iadd hx hb dL_law_473 ?_
  refine va_sld hx hb hX hbl hbA hS (hin 2 (by omega)) dL_law_474 ?_
  refine law_R F hK hS hlS hml cv_L_62 okr ⟨Nat.le_of_ble_eq_true rfl, Nat.le_of_ble_eq_true rfl⟩ rfl rfl hl.1 (Nat.le_of_ble_eq_true rfl) dL_law_475 hf (fun H2 locs2 hlS hS => ?_)
  refine lv_icmp_eq (tgt := 618) hx hb dL_law_478 (by decide) (fun _ => ?_) (fun q => absurd rfl q)
  exact kk n2 S2 Y2 L2 X2 ad2 H2 locs2 hiv2 hlS hS e0
set_option maxHeartbeats 4000000 in
set_option maxRecDepth 100000 in
theorem law_row (hL : L ≤ 3584) (C0 : lw_At p s m meth c b L xs) (hK : gw_K G s) (hi : i + 7 ≤ L) (hiv : iv n S Y X) (hlS : lS G s.heap ad adr n S Y Lq S X H) (hS : va_S (fun q : Nat => s.heap.size ≤ q) s.heap H locs) (hl : lv_has ls 4 [(0, .ref b), (1, .ref (ad 0)), (2, .ref (adr 0)), (3, .int (nI i))]) (hf : cells + 14 ≤ room_1.cells ∧ slots + 99 ≤ room_1.slots) (kk : lNx p l e s m below meth c b G adr (ad 0) (cells + 14) (slots + 99) ls) : W p l e room_1 s m #[Value.ref b] below meth c H locs cells slots (lw_Z below #[Value.ref b] s) (F0 m 483 ls []) := by
  obtain ⟨hx, hb, hr, hml, hown, hts, hX, hbl, hlocks, hgv⟩ := C0
  have F : gw_F p m c code s #[Value.ref b] RL := ⟨hx, hb, hown, fun w hw => hts w (gWL w hw)⟩
  have hbA : ¬ (fun q : Nat => s.heap.size ≤ q) b := Nat.not_le.mpr hbl
  have hin : ∀ k, k < 7 → vp_in (nI (i + k)) L := fun k hk => vp_in_nI (by omega) (by omega)
  obtain ⟨v, n2, S2, Y2, L2, X2, hiv2, okc, okr⟩ := pr_row (L := Lq) hiv (xs (nI (i + 1)).toNatClampNeg)
  refine lv_aload_n hx hb dL_law_483 rfl (lv_at hl 1 rfl) ?_
  refine lv_aload_n hx hb dL_law_484 rfl (lv_at hl 0 rfl) ?_
  refine lv_iload_n hx hb dL_law_485 rfl (lv_at hl 3 rfl) ?_
  refine lv_iconst (v := nI 1) hx hb dL_law_486 (by decide) ?_
  refine nv_iadd hx hb dL_law_487 ?_
  refine va_sld hx hb hX hbl hbA hS (hin 1 (by omega)) dL_law_488 ?_
  refine law_C F hK hS hlS hml cv_L_63 okc ⟨Nat.le_of_ble_eq_true rfl, Nat.le_of_ble_eq_true rfl⟩ rfl rfl hl.1 (Nat.le_of_ble_eq_true rfl) dL_law_489 hf (fun ad2 H1 locs1 e0 hlS hS => ?_)
  refine lv_aload_n hx hb dL_law_492 rfl (lv_at hl 2 rfl) ?_
  refine lv_aload_n hx hb dL_law_493 rfl (lv_at hl 0 rfl) ?_
  refine lv_iload_n hx hb dL_law_494 rfl (lv_at hl 3 rfl) ?_
  refine lv_iconst (v := nI 1) hx hb dL_law_495 (by decide) ?_
  refine nv_iadd hx hb dL_law_496 ?_
  refine va_sld hx hb hX hbl hbA hS (hin 1 (by omega)) dL_law_497 ?_
  refine law_R F hK hS hlS hml cv_L_66 okr ⟨Nat.le_of_ble_eq_true rfl, Nat.le_of_ble_eq_true rfl⟩ rfl rfl hl.1 (Nat.le_of_ble_eq_true rfl) dL_law_498 hf (fun H2 locs2 hlS hS => ?_)
  refine lv_icmp_eq (tgt := 618) hx hb dL_law_501 (by decide) (fun _ => ?_) (fun q => absurd rfl q)
  exact kk n2 S2 Y2 L2 X2 ad2 H2 locs2 hiv2 hlS hS e0
set_option maxHeartbeats 4000000 in
set_option maxRecDepth 100000 in
theorem law_item (hL : L ≤ 3584) (C0 : lw_At p s m meth c b L xs) (hK : gw_K G s) (hi : i + 7 ≤ L) (hiv : iv n S Y X) (hlS : lS G s.heap ad adr n S Y Lq S X H) (hS : va_S (fun q : Nat => s.heap.size ≤ q) s.heap H locs) (hl : lv_has ls 4 [(0, .ref b), (1, .ref (ad 0)), (2, .ref (adr 0)), (3, .int (nI i))]) (hf : cells + 14 ≤ room_1.cells ∧ slots + 99 ≤ room_1.slots) (kk : lNx p l e s m below meth c b G adr (ad 0) (cells + 14) (slots + 99) ls) : W p l e room_1 s m #[Value.ref b] below meth c H locs cells slots (lw_Z below #[Value.ref b] s) (F0 m 506 ls []) := by
  obtain ⟨hx, hb, hr, hml, hown, hts, hX, hbl, hlocks, hgv⟩ := C0
  have F : gw_F p m c code s #[Value.ref b] RL := ⟨hx, hb, hown, fun w hw => hts w (gWL w hw)⟩
  have hbA : ¬ (fun q : Nat => s.heap.size ≤ q) b := Nat.not_le.mpr hbl
  have hin : ∀ k, k < 7 → vp_in (nI (i + k)) L := fun k hk => vp_in_nI (by omega) (by omega)
  obtain ⟨v, n2, S2, Y2, L2, X2, hiv2, okc, okr⟩ := pr_item (L := Lq) hiv (xs (nI (i + 1)).toNatClampNeg) (xs (nI (i + 2)).toNatClampNeg)
  refine lv_aload_n hx hb dL_law_506 rfl (lv_at hl 1 rfl) ?_
  refine lv_aload_n hx hb dL_law_507 rfl (lv_at hl 0 rfl) ?_
  refine lv_iload_n hx hb dL_law_508 rfl (lv_at hl 3 rfl) ?_
  refine lv_iconst (v := nI 1) hx hb dL_law_509 (by decide) ?_
  refine nv_iadd hx hb dL_law_510 ?_
  refine va_sld hx hb hX hbl hbA hS (hin 1 (by omega)) dL_law_511 ?_
  refine lv_aload_n hx hb dL_law_512 rfl (lv_at hl 0 rfl) ?_
  refine lv_iload_n hx hb dL_law_513 rfl (lv_at hl 3 rfl) ?_
  refine lv_iconst (v := nI 2) hx hb dL_law_514 (by decide) ?_
  refine nv_iadd hx hb dL_law_515 ?_
  refine va_sld hx hb hX hbl hbA hS (hin 2 (by omega)) dL_law_516 ?_
  refine law_C F hK hS hlS hml cv_L_67 okc ⟨Nat.le_of_ble_eq_true rfl, Nat.le_of_ble_eq_true rfl⟩ rfl rfl hl.1 (Nat.le_of_ble_eq_true rfl) dL_law_517 hf (fun ad2 H1 locs1 e0 hlS hS => ?_)
  refine lv_aload_n hx hb dL_law_520 rfl (lv_at hl 2 rfl) ?_
  refine lv_aload_n hx hb dL_law_521 rfl (lv_at hl 0 rfl) ?_
  refine lv_iload_n hx hb dL_law_522 rfl (lv_at hl 3 rfl) ?_
  refine lv_iconst (v := nI 1) hx hb dL_law_523 (by decide) ?_
  refine nv_iadd hx hb dL_law_524 ?_
  refine va_sld hx hb hX hbl hbA hS (hin 1 (by omega)) dL_law_525 ?_
  refine lv_aload_n hx hb dL_law_526 rfl (lv_at hl 0 rfl) ?_
  refine lv_iload_n hx hb dL_law_527 rfl (lv_at hl 3 rfl) ?_
  refine lv_iconst (v := nI 2) hx hb dL_law_528 (by decide) ?_
  refine nv_iadd hx hb dL_law_529 ?_
  refine va_sld hx hb hX hbl hbA hS (hin 2 (by omega)) dL_law_530 ?_
  refine law_R F hK hS hlS hml cv_L_70 okr ⟨Nat.le_of_ble_eq_true rfl, Nat.le_of_ble_eq_true rfl⟩ rfl rfl hl.1 (Nat.le_of_ble_eq_true rfl) dL_law_531 hf (fun H2 locs2 hlS hS => ?_)
  refine lv_icmp_eq (tgt := 618) hx hb dL_law_534 (by decide) (fun _ => ?_) (fun q => absurd rfl q)
  exact kk n2 S2 Y2 L2 X2 ad2 H2 locs2 hiv2 hlS hS e0
set_option maxHeartbeats 4000000 in
set_option maxRecDepth 100000 in
theorem law_again (hL : L ≤ 3584) (C0 : lw_At p s m meth c b L xs) (hK : gw_K G s) (hi : i + 7 ≤ L) (hiv : iv n S Y X) (hlS : lS G s.heap ad adr n S Y Lq S X H) (hS : va_S (fun q : Nat => s.heap.size ≤ q) s.heap H locs) (hl : lv_has ls 4 [(0, .ref b), (1, .ref (ad 0)), (2, .ref (adr 0)), (3, .int (nI i))]) (hf : cells + 14 ≤ room_1.cells ∧ slots + 99 ≤ room_1.slots) (kk : lNx p l e s m below meth c b G adr (ad 0) (cells + 14) (slots + 99) ls) : W p l e room_1 s m #[Value.ref b] below meth c H locs cells slots (lw_Z below #[Value.ref b] s) (F0 m 539 ls []) := by
  obtain ⟨hx, hb, hr, hml, hown, hts, hX, hbl, hlocks, hgv⟩ := C0
  have F : gw_F p m c code s #[Value.ref b] RL := ⟨hx, hb, hown, fun w hw => hts w (gWL w hw)⟩
  have hbA : ¬ (fun q : Nat => s.heap.size ≤ q) b := Nat.not_le.mpr hbl
  have hin : ∀ k, k < 7 → vp_in (nI (i + k)) L := fun k hk => vp_in_nI (by omega) (by omega)
  obtain ⟨v, n2, S2, Y2, L2, X2, hiv2, okc, okr⟩ := pr_again (L := Lq) hiv 
  refine lv_aload_n hx hb dL_law_539 rfl (lv_at hl 1 rfl) ?_
  refine law_C F hK hS hlS hml cv_L_71 okc ⟨Nat.le_of_ble_eq_true rfl, Nat.le_of_ble_eq_true rfl⟩ rfl rfl hl.1 (Nat.le_of_ble_eq_true rfl) dL_law_540 hf (fun ad2 H1 locs1 e0 hlS hS => ?_)
  refine lv_aload_n hx hb dL_law_543 rfl (lv_at hl 2 rfl) ?_
  refine law_R F hK hS hlS hml cv_L_74 okr ⟨Nat.le_of_ble_eq_true rfl, Nat.le_of_ble_eq_true rfl⟩ rfl rfl hl.1 (Nat.le_of_ble_eq_true rfl) dL_law_544 hf (fun H2 locs2 hlS hS => ?_)
  refine lv_icmp_eq (tgt := 618) hx hb dL_law_547 (by decide) (fun _ => ?_) (fun q => absurd rfl q)
  exact kk n2 S2 Y2 L2 X2 ad2 H2 locs2 hiv2 hlS hS e0
set_option maxHeartbeats 4000000 in
set_option maxRecDepth 100000 in
theorem law_may (hL : L ≤ 3584) (C0 : lw_At p s m meth c b L xs) (hK : gw_K G s) (hi : i + 7 ≤ L) (hiv : iv n S Y X) (hlS : lS G s.heap ad adr n S Y Lq S X H) (hS : va_S (fun q : Nat => s.heap.size ≤ q) s.heap H locs) (hl : lv_has ls 4 [(0, .ref b), (1, .ref (ad 0)), (2, .ref (adr 0)), (3, .int (nI i))]) (hf : cells + 14 ≤ room_1.cells ∧ slots + 99 ≤ room_1.slots) (kk : lNx p l e s m below meth c b G adr (ad 0) (cells + 14) (slots + 99) ls) : W p l e room_1 s m #[Value.ref b] below meth c H locs cells slots (lw_Z below #[Value.ref b] s) (F0 m 552 ls []) := by
  obtain ⟨hx, hb, hr, hml, hown, hts, hX, hbl, hlocks, hgv⟩ := C0
  have F : gw_F p m c code s #[Value.ref b] RL := ⟨hx, hb, hown, fun w hw => hts w (gWL w hw)⟩
  have hbA : ¬ (fun q : Nat => s.heap.size ≤ q) b := Nat.not_le.mpr hbl
  have hin : ∀ k, k < 7 → vp_in (nI (i + k)) L := fun k hk => vp_in_nI (by omega) (by omega)
  obtain ⟨v, n2, S2, Y2, L2, X2, hiv2, okc, okr⟩ := pr_may (L := Lq) hiv (xs (nI (i + 1)).toNatClampNeg) (xs (nI (i + 2)).toNatClampNeg)
  refine lv_aload_n hx hb dL_law_552 rfl (lv_at hl 1 rfl) ?_
  refine lv_aload_n hx hb dL_law_553 rfl (lv_at hl 0 rfl) ?_
  refine lv_iload_n hx hb dL_law_554 rfl (lv_at hl 3 rfl) ?_
  refine lv_iconst (v := nI 1) hx hb dL_law_555 (by decide) ?_
  refine nv_iadd hx hb dL_law_556 ?_
  refine va_sld hx hb hX hbl hbA hS (hin 1 (by omega)) dL_law_557 ?_
  refine lv_aload_n hx hb dL_law_558 rfl (lv_at hl 0 rfl) ?_
  refine lv_iload_n hx hb dL_law_559 rfl (lv_at hl 3 rfl) ?_
  refine lv_iconst (v := nI 2) hx hb dL_law_560 (by decide) ?_
  refine nv_iadd hx hb dL_law_561 ?_
  refine va_sld hx hb hX hbl hbA hS (hin 2 (by omega)) dL_law_562 ?_
  refine law_C F hK hS hlS hml cv_L_75 okc ⟨Nat.le_of_ble_eq_true rfl, Nat.le_of_ble_eq_true rfl⟩ rfl rfl hl.1 (Nat.le_of_ble_eq_true rfl) dL_law_563 hf (fun ad2 H1 locs1 e0 hlS hS => ?_)
  refine lv_aload_n hx hb dL_law_566 rfl (lv_at hl 2 rfl) ?_
  refine lv_aload_n hx hb dL_law_567 rfl (lv_at hl 0 rfl) ?_
  refine lv_iload_n hx hb dL_law_568 rfl (lv_at hl 3 rfl) ?_
  refine lv_iconst (v := nI 1) hx hb dL_law_569 (by decide) ?_
  refine nv_iadd hx hb dL_law_570 ?_
  refine va_sld hx hb hX hbl hbA hS (hin 1 (by omega)) dL_law_571 ?_
  refine lv_aload_n hx hb dL_law_572 rfl (lv_at hl 0 rfl) ?_
  refine lv_iload_n hx hb dL_law_573 rfl (lv_at hl 3 rfl) ?_
  refine lv_iconst (v := nI 2) hx hb dL_law_574 (by decide) ?_
  refine nv_iadd hx hb dL_law_575 ?_
  refine va_sld hx hb hX hbl hbA hS (hin 2 (by omega)) dL_law_576 ?_
  refine law_R F hK hS hlS hml cv_L_78 okr ⟨Nat.le_of_ble_eq_true rfl, Nat.le_of_ble_eq_true rfl⟩ rfl rfl hl.1 (Nat.le_of_ble_eq_true rfl) dL_law_577 hf (fun H2 locs2 hlS hS => ?_)
  refine lv_icmp_eq (tgt := 618) hx hb dL_law_580 (by decide) (fun _ => ?_) (fun q => absurd rfl q)
  exact kk n2 S2 Y2 L2 X2 ad2 H2 locs2 hiv2 hlS hS e0
set_option maxHeartbeats 4000000 in
set_option maxRecDepth 100000 in
theorem law_ahead (hL : L ≤ 3584) (C0 : lw_At p s m meth c b L xs) (hK : gw_K G s) (hi : i + 7 ≤ L) (hiv : iv n S Y X) (hlS : lS G s.heap ad adr n S Y Lq S X H) (hS : va_S (fun q : Nat => s.heap.size ≤ q) s.heap H locs) (hl : lv_has ls 4 [(0, .ref b), (1, .ref (ad 0)), (2, .ref (adr 0)), (3, .int (nI i))]) (hf : cells + 14 ≤ room_1.cells ∧ slots + 99 ≤ room_1.slots) (kk : lNx p l e s m below meth c b G adr (ad 0) (cells + 14) (slots + 99) ls) : W p l e room_1 s m #[Value.ref b] below meth c H locs cells slots (lw_Z below #[Value.ref b] s) (F0 m 585 ls []) := by
  obtain ⟨hx, hb, hr, hml, hown, hts, hX, hbl, hlocks, hgv⟩ := C0
  have F : gw_F p m c code s #[Value.ref b] RL := ⟨hx, hb, hown, fun w hw => hts w (gWL w hw)⟩
  have hbA : ¬ (fun q : Nat => s.heap.size ≤ q) b := Nat.not_le.mpr hbl
  have hin : ∀ k, k < 7 → vp_in (nI (i + k)) L := fun k hk => vp_in_nI (by omega) (by omega)
  obtain ⟨v, n2, S2, Y2, L2, X2, hiv2, okc, okr⟩ := pr_ahead (L := Lq) hiv (xs (nI (i + 1)).toNatClampNeg) (xs (nI (i + 2)).toNatClampNeg)
  refine lv_aload_n hx hb dL_law_585 rfl (lv_at hl 1 rfl) ?_
  refine lv_aload_n hx hb dL_law_586 rfl (lv_at hl 0 rfl) ?_
  refine lv_iload_n hx hb dL_law_587 rfl (lv_at hl 3 rfl) ?_
  refine lv_iconst (v := nI 1) hx hb dL_law_588 (by decide) ?_
  refine nv_iadd hx hb dL_law_589 ?_
  refine va_sld hx hb hX hbl hbA hS (hin 1 (by omega)) dL_law_590 ?_
  refine lv_aload_n hx hb dL_law_591 rfl (lv_at hl 0 rfl) ?_
  refine lv_iload_n hx hb dL_law_592 rfl (lv_at hl 3 rfl) ?_
  refine lv_iconst (v := nI 2) hx hb dL_law_593 (by decide) ?_
  refine nv_iadd hx hb dL_law_594 ?_
  refine va_sld hx hb hX hbl hbA hS (hin 2 (by omega)) dL_law_595 ?_
  refine law_C F hK hS hlS hml cv_L_79 okc ⟨Nat.le_of_ble_eq_true rfl, Nat.le_of_ble_eq_true rfl⟩ rfl rfl hl.1 (Nat.le_of_ble_eq_true rfl) dL_law_596 hf (fun ad2 H1 locs1 e0 hlS hS => ?_)
  refine lv_aload_n hx hb dL_law_599 rfl (lv_at hl 2 rfl) ?_
  refine lv_aload_n hx hb dL_law_600 rfl (lv_at hl 0 rfl) ?_
  refine lv_iload_n hx hb dL_law_601 rfl (lv_at hl 3 rfl) ?_
  refine lv_iconst (v := nI 1) hx hb dL_law_602 (by decide) ?_
  refine nv_iadd hx hb dL_law_603 ?_
  refine va_sld hx hb hX hbl hbA hS (hin 1 (by omega)) dL_law_604 ?_
  refine lv_aload_n hx hb dL_law_605 rfl (lv_at hl 0 rfl) ?_
  refine lv_iload_n hx hb dL_law_606 rfl (lv_at hl 3 rfl) ?_
  refine lv_iconst (v := nI 2) hx hb dL_law_607 (by decide) ?_
  refine nv_iadd hx hb dL_law_608 ?_
  refine va_sld hx hb hX hbl hbA hS (hin 2 (by omega)) dL_law_609 ?_
  refine law_R F hK hS hlS hml cv_L_82 okr ⟨Nat.le_of_ble_eq_true rfl, Nat.le_of_ble_eq_true rfl⟩ rfl rfl hl.1 (Nat.le_of_ble_eq_true rfl) dL_law_610 hf (fun H2 locs2 hlS hS => ?_)
  refine lv_icmp_eq (tgt := 618) hx hb dL_law_613 (by decide) (fun _ => ?_) (fun q => absurd rfl q)
  exact kk n2 S2 Y2 L2 X2 ad2 H2 locs2 hiv2 hlS hS e0
end LCASE
