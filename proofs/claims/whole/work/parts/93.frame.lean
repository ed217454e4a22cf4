/-! ===== the frame of rows that begin anew: only the rows' own pointer to the laws may differ ===== -/
def rEq (r : Nat) (l : List Nat) (S S' : ab_S) : Prop := S'.1 = S.1 ∧ sK S' = sK S ∧ (∀ b, b ∉ l → sI S' b = sI S b) ∧ (∀ b, b ∉ l → sJ S' b = sJ S b) ∧ (∀ b, b ≠ r → sP S' b = sP S b) ∧ (∀ k, k ≠ 8 → sP S' r k = sP S r k) ∧ sn S' = sn S ∧ sz S' = sz S
theorem rEq.of {r : Nat} {l : List Nat} {S S' : ab_S} (h : sEq l S S') : rEq r l S S' := ⟨h.1, h.2.1, h.2.2.1, h.2.2.2.1, fun b _ => by rw [h.2.2.2.2.1], fun k _ => by rw [h.2.2.2.2.1], h.2.2.2.2.2⟩
theorem rEq.tr {r : Nat} {l : List Nat} {S S1 S2 : ab_S} (h : rEq r l S S1) (g : rEq r l S1 S2) : rEq r l S S2 := ⟨g.1.trans h.1, g.2.1.trans h.2.1, fun b hb => (g.2.2.1 b hb).trans (h.2.2.1 b hb), fun b hb => (g.2.2.2.1 b hb).trans (h.2.2.2.1 b hb), fun b hb => (g.2.2.2.2.1 b hb).trans (h.2.2.2.2.1 b hb), fun k hk => (g.2.2.2.2.2.1 k hk).trans (h.2.2.2.2.2.1 k hk), g.2.2.2.2.2.2.1.trans h.2.2.2.2.2.2.1, g.2.2.2.2.2.2.2.trans h.2.2.2.2.2.2.2⟩
theorem rEq.rP {r : Nat} {l : List Nat} {S S1 : ab_S} {v : Option Nat} (h : rEq r l S S1) : rEq r l S (pP S1 r 8 v) := ⟨h.1, h.2.1, h.2.2.1, h.2.2.2.1, fun b hb => (gP_o hb).trans (h.2.2.2.2.1 b hb), fun k hk => (gP_k hk).trans (h.2.2.2.2.2.1 k hk), h.2.2.2.2.2.2⟩
theorem clI.rR {S : ab_S} {im : Nat → Prop} {x c bh nb st q k : Nat} {a : Nat → Int32} {v : Option Nat} (hq : ¬ im q) (hX : x = 84 ∨ x = 94) (hq2 : 145 ≤ q) (h : clI S im x c a bh nb st) : clI (pP S q k v) im x c a bh nb st := by
  obtain ⟨a1, a2, a3, a4, a5, a6, a7, a8, a9, a10, a11, a12, b1, b2, b3⟩ := h
  have hE : imE im S (pP S q k v) := ⟨Nat.le_refl _, fun b hb _ => ⟨rfl, rfl, gP_o (fun z => hq (z ▸ hb))⟩⟩
  exact ⟨a1.im hE (fun _ z => z), (congrFun (gP_o (by omega)) _).trans a2, a3, a4, a5, a6, (congrFun (gP_o (by omega)) _).trans a7, a8, a9, a10, a11, a12, b1, b2, b3⟩
theorem roK.rR {S : ab_S} {r N : Nat} {v : Option Nat} (h : roK S r N) : roK (pP S r 8 v) r N := by
  obtain ⟨h1, h2, h3, h4, h5, h6, h7, h8, h9, h10, p0, p1, p2, p3, p4, p5, p6, p7, hN⟩ := h
  exact ⟨h1, h2, h3, h4, h5, h6, h7, h8, h9, h10, (gP_k (by decide)).trans p0, (gP_k (by decide)).trans p1, (gP_k (by decide)).trans p2, (gP_k (by decide)).trans p3, (gP_k (by decide)).trans p4, (gP_k (by decide)).trans p5, (gP_k (by decide)).trans p6, (gP_k (by decide)).trans p7, hN⟩
theorem xSh.rR {S : ab_S} {q k : Nat} {v : Option Nat} (hx : xSh S) (hq : ∀ t ∈ xPl, t.1 ≠ q) : xSh (pP S q k v) := ⟨hx.1, hx.2.1, fun t ht => (congrFun (gP_o (hq t ht)) _).trans (hx.2.2 t ht)⟩
