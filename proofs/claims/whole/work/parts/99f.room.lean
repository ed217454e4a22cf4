/-! ===== room: what a call makes, paid for by what can still be made ===== -/
/-- how many of the sizes are still larger -/
def lvl (x : Nat) : Nat := (if x < 1 then 1 else 0) + (if x < 5 then 1 else 0) + (if x < 50 then 1 else 0) + (if x < 750 then 1 else 0) + (if x < 15000 then 1 else 0)
theorem szN.cs {N : Nat} (h : szN N) : N = 1 ∨ N = 5 ∨ N = 50 ∨ N = 750 ∨ N = 15000 := by
  obtain ⟨R, hR, rfl⟩ := h
  have : ∀ R, R < 5 → kFc R * 5 ^ R = 1 ∨ kFc R * 5 ^ R = 5 ∨ kFc R * 5 ^ R = 50 ∨ kFc R * 5 ^ R = 750 ∨ kFc R * 5 ^ R = 15000 := by decide
  exact this R (by omega)
theorem lvl_lt {N x : Nat} (h : szN N) (hx : x < N) : lvl N + 1 ≤ lvl x := by
  have h2 := h.cs
  unfold lvl
  (repeat' split) <;> omega
theorem lvl_le (x : Nat) : lvl x ≤ 5 := by
  unfold lvl
  (repeat' split) <;> omega
/-- the size of what a reference leads to: of the array at a distance d from it -/
def szL (S : ab_S) (p : Option Nat) (d : Nat) : Nat := match p with
  | none => 0
  | some r => match sK S (r + d) with
    | .inl (_, N) => N
    | .inr _ => 0
def cA (S : ab_S) : Nat := sn S + 8 * lvl (szL S (sP S 50 15) 1) + 6 * lvl (szL S (sP S 50 16) 3) + lvl (szL S (sP S 84 6) 0)
def zA (S : ab_S) : Nat := sz S + 150015 * lvl (szL S (sP S 50 15) 1) + 150020 * lvl (szL S (sP S 50 16) 3) + 15000 * lvl (szL S (sP S 84 6) 0)
/-- at most m cells and z fields and elements more -/
def gA (S S' : ab_S) (m z : Nat) : Prop := cA S' ≤ cA S + m ∧ zA S' ≤ zA S + z
theorem gA.rf {S : ab_S} {m z : Nat} : gA S S m z := ⟨Nat.le_add_right _ _, Nat.le_add_right _ _⟩
theorem gA.tr {S S1 S2 : ab_S} {m z m' z' : Nat} (h : gA S S1 m z) (g : gA S1 S2 m' z') : gA S S2 (m + m') (z + z') := by
  obtain ⟨h1, h2⟩ := h
  obtain ⟨g1, g2⟩ := g
  exact ⟨by omega, by omega⟩
theorem gA.sE {l : List Nat} {S S' : ab_S} (h : sEq l S S') : gA S S' 0 0 := by
  unfold gA cA zA szL
  rw [h.2.1, h.2.2.2.2.1, h.2.2.2.2.2.1, h.2.2.2.2.2.2]
  exact ⟨Nat.le_refl _, Nat.le_refl _⟩
theorem gA.dE {l : List Nat} {S S' : ab_S} (h : dEq l S S') : gA S S' 0 0 := by
  unfold gA cA zA szL
  rw [h.2.1, h.2.2.2.2.1 50 (by decide), h.2.2.2.2.1 84 (by decide), h.2.2.2.2.2.2.1, h.2.2.2.2.2.2.2]
  exact ⟨Nat.le_refl _, Nat.le_refl _⟩
theorem szL.kp {S S' : ab_S} {p : Option Nat} {d : Nat} (h : ∀ r, p = some r → sK S' (r + d) = sK S (r + d)) : szL S' p d = szL S p d := by
  unfold szL
  cases p with
  | none => rfl
  | some r =>
    have e := h r rfl
    simp only [e]
theorem gA.rows {S S' : ab_S} {im : Nat → Prop} {a b : Nat → Int32} {c bh nb st st2 u N r k rs st' u' : Nat} {a' : Nat → Int32} (h : kBd S im a c b bh nb st st2 u) (f : fAs im bh S S') (g : gwR S S' N) (hr : rfB S' im bh st' a' u' r N k rs) : gA S S' 0 0 := by
  obtain ⟨x1, x2, x3, ⟨x4, x5, x6⟩, x7, x8, ⟨x9, x10, x11, x12⟩, x13, ⟨x14, x15⟩, x16, x17, x18, x19⟩ := h
  obtain ⟨⟨g1, g2⟩, g3⟩ := g
  have kk := f.1.2.2.1
  have eN : szL S' (sP S' 50 15) 1 = N := by
    unfold szL
    rw [hr.1]
    show (match sK S' (r + 1) with | .inl (_, N) => N | .inr _ => 0) = N
    rw [hr.2.2.2.1.2.2.2.1]
  have eB : szL S' (sP S' 84 6) 0 = szL S (sP S 84 6) 0 := by
    rw [g2]
    refine szL.kp (fun q e => kk _ ?_)
    rw [x11.2.2.2.2.2.2.1] at e
    have := Option.some.inj e
    have := x11.2.2.2.2.2.2.2.1.2
    omega
  have eF : szL S' (sP S' 50 16) 3 = szL S (sP S 50 16) 3 := by
    rw [g1]
    refine szL.kp (fun q e => kk _ ?_)
    rcases x17 with ⟨-, y2⟩ | ⟨r0, N0, kn, rs, b1, p, hi, hb, hK, hz0, hs, k1, k2, r1, r2, h90, hI, hF⟩
    · rw [y2] at e; cases e
    · rcases hF with hF | ⟨F, M, pF, hiF, hbF, hrF, hKF, -⟩
      · rw [hF] at e; cases e
      · rw [pF] at e
        have := Option.some.inj e
        have := hKF.2.1
        omega
  unfold gA cA zA
  rw [eN, eB, eF]
  rcases g3 with ⟨h1, h2, h3⟩ | ⟨h1, h2, h3⟩
  · have e0 : szL S (sP S 50 15) 1 = N := by
      rw [← eN, h3]
      refine (szL.kp (fun q e => kk _ ?_)).symm
      rcases x17 with ⟨y2, -⟩ | ⟨r0, N0, kn, rs, b1, p, hi, hb, hK, -⟩
      · rw [y2] at e; cases e
      · rw [p] at e
        have := Option.some.inj e
        have := hK.2.1
        omega
    rw [e0]
    omega
  · have hlt : szL S (sP S 50 15) 1 < N := by
      rcases x17 with ⟨y2, -⟩ | ⟨r0, N0, kn, rs, b1, p, hi, hb, hK, -⟩
      · rw [y2]
        show 0 < N
        have := hr.2.2.2.2.1.cs
        omega
      · have hl := h3 r0 N0 p hK
        rw [p]
        show (match sK S (r0 + 1) with | .inl (_, N) => N | .inr _ => 0) < N
        rw [hK.2.2.2.1]
        exact hl
    have hv := lvl_lt hr.2.2.2.2.1 hlt
    have hc := hr.2.2.2.2.1.cs
    omega
/-- behind a call of the class that only asks -/
def pAs (S : ab_S) (im : Nat → Prop) (a : Nat → Int32) (c bh nb u m z : Nat) (v0 v : Option Value) (w' : ab_H) : Prop := v = v0 ∧ ∃ S' b' st' st2', w' = sw S' ∧ fAs im bh S S' ∧ gA S S' m z ∧ kBd S' im a c b' bh nb st' st2' (u + 64) ∧ sdE S' 55 (rowT a)
theorem kBd.rgo {S S' : ab_S} {im : Nat → Prop} {l : List Nat} {a : Nat → Int32} {c bh nb st st2 u r N k k' rs : Nat} (h : kBd S im a c a bh nb st st2 u) (hR : rfB S im bh st a u r N k rs) (hE : sEq l S S') (hl : ∀ y, y ∈ l → (84 ≤ y ∧ y ≤ 93 ∧ y ≠ 84) ∨ y = bh ∨ (r ≤ y ∧ y ≤ r + 7)) (hcl : clI S' im 84 c a bh nb st) (hI : roI S' r N 84 a k') (h9 : sI S' r 9 = sI S r 9) (h14 : sI S' r 14 = sI S r 14) : kBd S' im a c a bh nb st st2 u ∧ rfB S' im bh st a u r N k' rs ∧ fAs im bh S S' ∧ gA S S' 0 0 := by
  have hb := h.bh
  have h0 := h
  obtain ⟨x1, x2, x3, ⟨x4, x5, x6⟩, x7, -⟩ := h0
  have hr := hR.2.2.2.1.1
  have hi := hR.2.1
  have hR' := hR.go hE x6 (by omega) (fun y z => by have := hl y z; omega) hI h9 h14
  refine ⟨h.ro (gF.sE hE) (x1.eq hE) (fun y z => ?_) hcl (by rw [hE.2.2.1 84 (fun z => by have := hl 84 z; omega)]) (hR'.K x7.1 hcl.2.2.2.2.2.1.2) (Nat.le_refl _), hR', fAs.of (gF.sE hE) (by omega) (fun y _ z => ?_) (by omega), gA.sE hE⟩
  · rcases hl y z with w | w | w
    · exact Or.inl ⟨w.1, w.2.1⟩
    · exact Or.inr (Or.inl w)
    · exact Or.inr (Or.inr ⟨by omega, hi y w.1 w.2⟩)
  · rcases hl y z with w | w | w
    · exact Or.inr (Or.inl ⟨w.1, by omega⟩)
    · exact Or.inr (Or.inr (Or.inl w))
    · exact Or.inr (Or.inr (Or.inr ⟨by omega, hi y w.1 w.2⟩))
