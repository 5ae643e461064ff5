/-! cuts: a place that several ways come to; a loop's head -/
section LP
variable {p : Program} {l : Launch} {e : Env} {R : Room} {s : State} {m : MethodId} {args : Array Value} {below : List Frame} {meth : Method} {c : Code} {H : Heap} {locs : List Loc} {cells slots : Nat} {Q : State → Prop} {g : JFrame}
theorem lp_cut {pc2 : Nat} {st2 : List Value} (P : Heap → List Loc → Array Slot → Prop) (k1 : ∀ (H : Heap) (locs : List Loc) (ls : Array Slot), P H locs ls → W p l e R s m args below meth c H locs cells slots Q (F0 m pc2 ls st2))
    (k2 : (∀ (H : Heap) (locs : List Loc) (ls : Array Slot), P H locs ls → W p l e R s m args below meth c H locs cells slots Q (F0 m pc2 ls st2)) → W p l e R s m args below meth c H locs cells slots Q g) : W p l e R s m args below meth c H locs cells slots Q g := k2 k1
theorem lp_gen {P : Heap → List Loc → Prop} (h : P H locs) (k : ∀ (H : Heap) (locs : List Loc), P H locs → W p l e R s m args below meth c H locs cells slots Q g) : W p l e R s m args below meth c H locs cells slots Q g := k H locs h
end LP
theorem ix_yes {M x : Int32} {n : Nat} (hM : M = nI n) (hn : n < 2 ^ 31) (h1 : ¬ x < 0) (h2 : ¬ M ≤ x) : ∃ j, j < n ∧ x = nI j := by
  subst hM
  rcases pk_ix x (n := n) hn with q | q | ⟨j, q1, q2⟩
  · exact absurd q h1
  · exact absurd q h2
  · exact ⟨j, q1, q2⟩
theorem ix_le {x : Int32} {n : Nat} (hn : n < 2 ^ 31) (h1 : ¬ x < 0) (h2 : ¬ nI n < x) : ∃ j, j ≤ n ∧ x = nI j := by
  exact nI_of2 (nI_toInt hn) h1 (Int32.not_lt.mp h2)
theorem ix_in {x : Int32} {a n : Nat} (ha : a < 2 ^ 31) (hn : n < 2 ^ 31) (h1 : ¬ x < nI a) (h2 : ¬ nI n < x) : ∃ j, a ≤ j ∧ j ≤ n ∧ x = nI j := by
  have h0 : ¬ x < 0 := fun q => by
    rw [Int32.lt_iff_toInt_lt] at q h1
    rw [nI_toInt ha] at h1
    have : (0 : Int32).toInt = 0 := rfl
    omega
  obtain ⟨j, q1, q2⟩ := ix_le hn h0 h2
  subst q2
  refine ⟨j, ?_, q1, rfl⟩
  have := (not_congr (nI_ltI (by omega) ha)).mp h1
  omega
