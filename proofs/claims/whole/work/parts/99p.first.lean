/-! ===== the row as a carriage first tells it ===== -/
theorem c4_d4 {s : Nat} (h : s < 256) : c4 (fun r => d4 s r) = s := by
  unfold c4 d4
  simp only [Nat.reducePow]
  omega
theorem caI_first {S : ab_S} {im : Nat → Prop} {c : Nat} {a : Nat → Int32} (h : caI S im c a) (ha : aOk a) : ∃ b, aOk b ∧ sta a b ∧ caI S im c b ∧ sI S c 3 = nI (seaC b) ∧ sI S c 2 = b 40 := by
  have h0 := h
  obtain ⟨-, -, -, -, -, -, -, s, m, e3, hs, e2, hm⟩ := h0
  have o1 := (aSn_ok ha (p := 0) (s := d4 s 0) (by decide) (d4_lt _ _)).1
  have o2 := (aSn_ok o1 (p := 1) (s := d4 s 1) (by decide) (d4_lt _ _)).1
  have o3 := (aSn_ok o2 (p := 2) (s := d4 s 2) (by decide) (d4_lt _ _)).1
  have o4 := (aSn_ok o3 (p := 3) (s := d4 s 3) (by decide) (d4_lt _ _)).1
  have o5 := aMon_ok o4 hm
  have hst : sta a (up1 (aSn (aSn (aSn (aSn a 0 (d4 s 0)) 1 (d4 s 1)) 2 (d4 s 2)) 3 (d4 s 3)) 40 (nI m)) := fun i hi => by
    unfold aSn
    rw [up1_o (by omega), up1_o (by omega), up1_o (by omega), up1_o (by omega), up1_o (by omega)]
  have hv : ∀ r, r < 4 → up1 (aSn (aSn (aSn (aSn a 0 (d4 s 0)) 1 (d4 s 1)) 2 (d4 s 2)) 3 (d4 s 3)) 40 (nI m) (28 + r) = nI (d4 s r) := fun r hr => by
    unfold aSn
    rcases (show r = 0 ∨ r = 1 ∨ r = 2 ∨ r = 3 by omega) with z | z | z | z <;> rw [z]
    · rw [up1_o (by decide), up1_o (by decide), up1_o (by decide), up1_o (by decide), up1_s]
    · rw [up1_o (by decide), up1_o (by decide), up1_o (by decide), up1_s]
    · rw [up1_o (by decide), up1_o (by decide), up1_s]
    · rw [up1_o (by decide), up1_s]
  refine ⟨_, o5, hst, h.sta hst, ?_, by rw [up1_s]; exact e2⟩
  rw [e3]
  have e : seaC (up1 (aSn (aSn (aSn (aSn a 0 (d4 s 0)) 1 (d4 s 1)) 2 (d4 s 2)) 3 (d4 s 3)) 40 (nI m)) = c4 (fun r => d4 s r) := c4_cg (fun r hr => by rw [hv r hr, cN_nI (by have := d4_lt s r; omega)])
  rw [e, c4_d4 hs]
