/-! ===== the tree of what is found, over any step ===== -/
section TREE2
variable {nx : Nat → Nat → Option Nat} {c0 N : Nat}
theorem bfA_src {L : List Nat} {s u : Nat} (h : u ∈ bfA L s) : u ∈ L ∨ u = s := by
  unfold bfA at h
  split at h
  · exact Or.inl h
  · rcases List.mem_append.mp h with z | z
    · exact Or.inl z
    · exact Or.inr (List.mem_singleton.mp z)
theorem bfO_src {L : List Nat} {c u : Nat} : ∀ d, u ∈ bfO nx L c d → u ∈ L ∨ ∃ e, e < d ∧ nx c e = some u
  | 0, h => Or.inl h
  | d + 1, h => by
    cases e : nx c d with
    | none =>
      rw [bfO_none e] at h
      rcases bfO_src d h with z | ⟨b, b1, b2⟩
      · exact Or.inl z
      · exact Or.inr ⟨b, by omega, b2⟩
    | some s =>
      rw [bfO_some e] at h
      rcases bfA_src h with z | z
      · rcases bfO_src d z with z | ⟨b, b1, b2⟩
        · exact Or.inl z
        · exact Or.inr ⟨b, by omega, b2⟩
      · exact Or.inr ⟨d, by omega, by rw [e, z]⟩
theorem bfB_src : ∀ k u, u ∈ bfB nx c0 k → u = c0 ∨ ∃ i d, i < k ∧ i < (bfB nx c0 k).length ∧ d < 4 ∧ nx ((bfB nx c0 k).getD i 0) d = some u
  | 0, u, h => Or.inl (List.mem_singleton.mp (show u ∈ [c0] from h))
  | k + 1, u, h => by
    have hp := bfB_step (nx := nx) (c0 := c0) k
    have hl := hp.len
    have old : u ∈ bfB nx c0 k → u = c0 ∨ ∃ i d, i < k + 1 ∧ i < (bfB nx c0 (k + 1)).length ∧ d < 4 ∧ nx ((bfB nx c0 (k + 1)).getD i 0) d = some u := fun z => by
      rcases bfB_src k u z with z | ⟨i, d, i1, i2, i3, i4⟩
      · exact Or.inl z
      · exact Or.inr ⟨i, d, by omega, by omega, i3, by rw [hp.get i2]; exact i4⟩
    by_cases z : k < (bfB nx c0 k).length
    · rw [bfB_s z] at h
      rcases bfO_src 4 h with y | ⟨e, e1, e2⟩
      · exact old y
      · exact Or.inr ⟨k, e, by omega, by omega, e1, by rw [hp.get z]; exact e2⟩
    · rw [bfB_e z] at h
      exact old h
theorem bfB_stab {k : Nat} (h : (bfB nx c0 k).length ≤ k) : ∀ m, bfB nx c0 (k + m) = bfB nx c0 k
  | 0 => rfl
  | m + 1 => by
    have ih := bfB_stab h m
    have e : bfB nx c0 (k + m + 1) = bfB nx c0 (k + m) := bfB_e (by rw [ih]; omega)
    rw [show k + (m + 1) = k + m + 1 by omega, e, ih]
theorem bfB_gt (hN : (bfB nx c0 N).length = N) {p : Nat} (hp : p < N) : p < (bfB nx c0 p).length := by
  refine Nat.not_le.mp ?_
  intro z
  have := bfB_stab z (N - p)
  rw [show p + (N - p) = N by omega] at this
  rw [this] at hN
  omega
/-- an index is below how many there were when k were opened, where it was found by then -/
theorem bfB_ix {k i : Nat} (hk : k ≤ N) (hi : i < (bfB nx c0 N).length) : (bfB nx c0 N).getD i 0 ∈ bfB nx c0 k ↔ i < (bfB nx c0 k).length := by
  have hp := bfB_mono (nx := nx) (c0 := c0) hk
  constructor
  · intro h
    have h1 := hp.ix h
    rw [get_ix (bfB_nd N) hi] at h1
    rw [h1]
    exact ix_lt h
  · intro h
    rw [hp.get h]
    exact get_mem h
def gT2 (nx : Nat → Nat → Option Nat) (L : List Nat) (i d : Nat) : Option Nat := (nx (L.getD i 0) d).map L.idxOf
theorem gT2_iff (hN : (bfB nx c0 N).length = N) {i d j : Nat} (hi : i < N) (hd : d < 4) : gT2 nx (bfB nx c0 N) i d = some j ↔ (j < N ∧ nx ((bfB nx c0 N).getD i 0) d = some ((bfB nx c0 N).getD j 0)) := by
  unfold gT2
  constructor
  · intro h
    cases e : nx ((bfB nx c0 N).getD i 0) d with
    | none => rw [e] at h; cases h
    | some s =>
      rw [e] at h
      have hj : (bfB nx c0 N).idxOf s = j := Option.some.inj h
      have hm := bfB_clo N i d s hi (by omega) hd e
      have hl := ix_lt hm
      refine ⟨by omega, ?_⟩
      rw [← hj, ix_get hm]
  · intro ⟨h1, h2⟩
    rw [h2]
    show some ((bfB nx c0 N).idxOf _) = some j
    rw [get_ix (bfB_nd N) (by omega)]
/-- by which an element of a list was found first -/
def pfB (nx : Nat → Nat → Option Nat) (L : List Nat) (i : Nat) : Nat := sFirst (fun p => (List.range 4).any (fun d => nx (L.getD p 0) d == some (L.getD i 0))) L.length 0
theorem any4 {L : List Nat} {p i : Nat} : ((List.range 4).any (fun d => nx (L.getD p 0) d == some (L.getD i 0)) = true) ↔ ∃ d, d < 4 ∧ nx (L.getD p 0) d = some (L.getD i 0) := by
  rw [List.any_eq_true]
  constructor
  · intro ⟨d, h1, h2⟩
    exact ⟨d, List.mem_range.mp h1, beq_iff_eq.mp h2⟩
  · intro ⟨d, h1, h2⟩
    exact ⟨d, List.mem_range.mpr h1, beq_iff_eq.mpr h2⟩
theorem pfB_ok {L : List Nat} {i p : Nat} (hp : p < L.length) {d : Nat} (hd : d < 4) (e : nx (L.getD p 0) d = some (L.getD i 0)) : pfB nx L i ≤ p ∧ (∃ d, d < 4 ∧ nx (L.getD (pfB nx L i) 0) d = some (L.getD i 0)) ∧ ∀ p' d', p' < pfB nx L i → d' < 4 → nx (L.getD p' 0) d' ≠ some (L.getD i 0) := by
  have hlt : pfB nx L i < L.length := sFirst_lt hp (any4.mpr ⟨d, hd, e⟩)
  have hno : ∀ p', p' < pfB nx L i → ¬ ∃ d, d < 4 ∧ nx (L.getD p' 0) d = some (L.getD i 0) := fun p' h1 h2 => by
    have := sFirst_no (fun p => (List.range 4).any (fun d => nx (L.getD p 0) d == some (L.getD i 0))) L.length 0 p' (Nat.zero_le _) h1
    rw [any4.mpr h2] at this
    cases this
  refine ⟨?_, ?_, fun p' d' h1 h2 h3 => hno p' h1 ⟨d', h2, h3⟩⟩
  · refine Nat.not_lt.mp ?_
    intro z
    exact hno p z ⟨d, hd, e⟩
  · exact any4.mp (sFirst_yes (fun p => (List.range 4).any (fun d => nx (L.getD p 0) d == some (L.getD i 0))) L.length 0 (by rw [Nat.zero_add]; exact hlt))
end TREE2
