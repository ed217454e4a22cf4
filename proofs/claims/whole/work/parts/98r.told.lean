/-! ===== the carriage that is being told ===== -/
def wC (F : Nat → Int32) : Nat := cN (F 32) + 5 * cN (F 33) + 25 * cN (F 34) + 125 * cN (F 35)
def tcK (S : ab_S) (c : Nat) : Prop := 145 ≤ c ∧ c + 2 < sn S ∧ sK S c = .inr 0 ∧ sK S (c + 1) = .inl (.int, 4) ∧ sK S (c + 2) = .inl (.int, 16) ∧ sP S c 5 = some (c + 1) ∧ sP S c 6 = some (c + 2)
theorem tcK.eq {S S' : ab_S} {c : Nat} {l : List Nat} (h : tcK S c) (hE : sEq l S S') : tcK S' c := by
  unfold tcK
  rw [hE.2.1, hE.2.2.2.2.1, hE.2.2.2.2.2.1]
  exact h
def tcV (S : ab_S) (c : Nat) (F : Nat → Int32) (r : Nat) : Prop := sI S c 1 = F 0 ∧ sI S c 2 = F 40 ∧ sI S c 3 = nI (seaC F) ∧ sI S c 4 = nI (wC F) ∧ (∀ i, i < 4 → sI S (c + 1) i = F (8 + i)) ∧ (∀ j, j < 16 → sI S (c + 2) j = F (12 + j)) ∧ F 1 = nI r ∧ r ≤ 4 ∧ (∀ i, i < 4 → ∃ s, F (28 + i) = nI s ∧ s < 4) ∧ ∀ i, i < 4 → ∃ w, F (32 + i) = nI w ∧ w < 5
def tL (S : ab_S) (tp : Nat → Nat) (n p c : Nat) (F : Nat → Int32) (r r0 : Nat) : Prop := qLv S tp n p ∧ sP S 72 8 = some c ∧ tcK S c ∧ tcV S c F r ∧ sI S c 0 = nI r0
def tD (S : ab_S) (n : Nat) (e : Nat × Nat) (c : Nat) : Prop := qD S n e ∧ sP S 72 8 = some c ∧ tcK S c ∧ (∃ r, r ≤ 4 ∧ sI S c 0 = nI r) ∧ (∃ s, s < 256 ∧ sI S c 3 = nI s) ∧ ∃ w, w < 625 ∧ sI S c 4 = nI w
def tF (c : Nat) (S S' : ab_S) : Prop := sEq [72, c, c + 1, c + 2] S S' ∧ ∀ j, (j < 2 ∨ 7 < j) → sI S' 72 j = sI S 72 j
theorem tF.rf {c : Nat} {S : ab_S} : tF c S S := ⟨sEq.rf, fun _ _ => rfl⟩
theorem tF.tr {c : Nat} {S S1 S2 : ab_S} (h : tF c S S1) (g : tF c S1 S2) : tF c S S2 := ⟨h.1.tr g.1, fun j hj => (g.2 j hj).trans (h.2 j hj)⟩
theorem tF.g {c : Nat} {S S1 : ab_S} (h : qG S S1) : tF c S S1 := ⟨h.1.mono (by simp), h.2⟩
theorem tF.p {c b k : Nat} {x : Int32} {S : ab_S} (hc : 145 ≤ c) (hb : b = c ∨ b = c + 1 ∨ b = c + 2) : tF c S (pI S b k x) := ⟨sEq.rf.pI (by simp only [List.mem_cons, List.not_mem_nil, or_false]; omega), fun j _ => congrFun (gI_o (by omega)) j⟩
theorem qLv.o {S S' : ab_S} {tp : Nat → Nat} {n p : Nat} {l : List Nat} (h : qLv S tp n p) (hE : sEq l S S') (h1 : 72 ∉ l) (h2 : 51 ∉ l) : qLv S' tp n p := by
  obtain ⟨a1, a2, a3, a4, a5, a6, a7, a8, a9, N, a10, a11⟩ := h
  have c72 := hE.2.2.1 72 h1
  exact ⟨a1.eq hE, by rw [hE.1]; exact a2, a3.eq hE h2, a4, by rw [hE.2.2.2.2.1]; exact a5, by rw [c72]; exact a6, a7, by unfold qT; rw [c72]; exact a8, by rw [c72]; exact a9, N, a10, by rw [c72]; exact a11⟩
theorem qD.o {S S' : ab_S} {n : Nat} {e : Nat × Nat} {l : List Nat} (h : qD S n e) (hE : sEq l S S') (h1 : 72 ∉ l) : qD S' n e := by
  obtain ⟨a1, a2, a3, a4, a5, a6, a7, a8, a9, a10, N, a11, a12⟩ := h
  have c72 := hE.2.2.1 72 h1
  exact ⟨a1.eq hE, by rw [hE.1]; exact a2, a3, by rw [hE.2.2.2.2.1]; exact a4, by rw [c72]; exact a5, by rw [c72]; exact a6, by rw [c72]; exact a7, by rw [c72]; exact a8, by rw [c72]; exact a9, a10, N, a11, by rw [c72]; exact a12⟩
section
variable {S S' : ab_S} {tp : Nat → Nat} {n p q c r r0 : Nat} {F : Nat → Int32} {e : Nat × Nat}
theorem tcV.eq {l : List Nat} (h : tcV S c F r) (hE : sEq l S S') (h0 : c ∉ l) (h1 : c + 1 ∉ l) (h2 : c + 2 ∉ l) : tcV S' c F r := by
  unfold tcV
  rw [hE.2.2.1 c h0, hE.2.2.1 (c + 1) h1, hE.2.2.1 (c + 2) h2]
  exact h
theorem tL.g (h : tL S tp n p c F r r0) (g : qG S S') (hq : qLv S' tp n q) : tL S' tp n q c F r r0 := by
  obtain ⟨a1, a2, a3, a4, a5⟩ := h
  have hc := a3.1
  have n0 : c ∉ [72] := by rw [List.mem_singleton]; omega
  have n1 : c + 1 ∉ [72] := by rw [List.mem_singleton]; omega
  have n2 : c + 2 ∉ [72] := by rw [List.mem_singleton]; omega
  exact ⟨hq, by rw [g.1.2.2.2.2.1]; exact a2, a3.eq g.1, a4.eq g.1 n0 n1 n2, by rw [g.1.2.2.1 c n0]; exact a5⟩
theorem seaC_l (h : ∀ i, i < 4 → ∃ s, F (28 + i) = nI s ∧ s < 4) : seaC F < 256 ∧ ∀ i, i < 4 → d4 (seaC F) i = cN (F (28 + i)) := by
  have hb : ∀ i, i < 4 → cN (F (28 + i)) < 4 := fun i hi => by
    obtain ⟨s, e1, e2⟩ := h i hi
    rw [e1, cN_nI (by omega)]; exact e2
  exact ⟨c4_lt hb, c4_d hb⟩
theorem wC_l (h : ∀ i, i < 4 → ∃ w, F (32 + i) = nI w ∧ w < 5) : wC F < 625 ∧ ∀ i, i < 4 → mWa (wC F) i = cN (F (32 + i)) := by
  have hb : ∀ i, i < 4 → cN (F (32 + i)) < 5 := fun i hi => by
    obtain ⟨s, e1, e2⟩ := h i hi
    rw [e1, cN_nI (by omega)]; exact e2
  have b0 : cN (F 32) < 5 := hb 0 (by omega)
  have b1 : cN (F 33) < 5 := hb 1 (by omega)
  have b2 : cN (F 34) < 5 := hb 2 (by omega)
  have b3 : cN (F 35) < 5 := hb 3 (by omega)
  have hw : wC F < 625 := by unfold wC; omega
  refine ⟨hw, fun i hi => ?_⟩
  rw [mWa_w hw]
  unfold wC
  match i, hi with
  | 0, _ => show _ / 1 % 5 = cN (F 32); omega
  | 1, _ => show _ / 5 % 5 = cN (F 33); omega
  | 2, _ => show _ / 25 % 5 = cN (F 34); omega
  | 3, _ => show _ / 125 % 5 = cN (F 35); omega
theorem tL.die (h : tL S tp n p c F r r0) (hr : r0 ≤ 4) (g : qG S S') (hq : qD S' n e) : tD S' n e c := by
  obtain ⟨a1, a2, a3, a4, a5⟩ := h
  have hc := a3.1
  have n0 : c ∉ [72] := by rw [List.mem_singleton]; omega
  refine ⟨hq, by rw [g.1.2.2.2.2.1]; exact a2, a3.eq g.1, ⟨r0, hr, by rw [g.1.2.2.1 c n0]; exact a5⟩, ⟨seaC F, (seaC_l a4.2.2.2.2.2.2.2.2.1).1, by rw [g.1.2.2.1 c n0]; exact a4.2.2.1⟩, ⟨wC F, (wC_l a4.2.2.2.2.2.2.2.2.2).1, by rw [g.1.2.2.1 c n0]; exact a4.2.2.2.1⟩⟩
theorem tD.g {e' : Nat × Nat} (h : tD S n e c) (g : qG S S') (hq : qD S' n e') : tD S' n e' c := by
  obtain ⟨a1, a2, a3, ⟨r, b1, b2⟩, ⟨s, d1, d2⟩, w, e1, e2⟩ := h
  have hc := a3.1
  have n0 : c ∉ [72] := by rw [List.mem_singleton]; omega
  refine ⟨hq, by rw [g.1.2.2.2.2.1]; exact a2, a3.eq g.1, ⟨r, b1, by rw [g.1.2.2.1 c n0]; exact b2⟩, ⟨s, d1, by rw [g.1.2.2.1 c n0]; exact d2⟩, ⟨w, e1, by rw [g.1.2.2.1 c n0]; exact e2⟩⟩
/-- a put into the told cells, dead -/
theorem tD.put {b k : Nat} {x : Int32} (h : tD S n e c) (hb : b = c ∨ b = c + 1 ∨ b = c + 2) (hx : b = c → (k = 3 ∧ ∃ s, s < 256 ∧ x = nI s) ∨ (k = 4 ∧ ∃ w, w < 625 ∧ x = nI w)) : tD (pI S b k x) n e c := by
  obtain ⟨a1, a2, a3, ⟨r, b1, b2⟩, ⟨s, d1, d2⟩, w, e1, e2⟩ := h
  have hc := a3.1
  have hE : sEq [b] S (pI S b k x) := sEq.rf.pI (by simp)
  refine ⟨a1.o hE (by rw [List.mem_singleton]; omega), a2, a3.eq hE, ?_, ?_, ?_⟩
  · refine ⟨r, b1, ?_⟩
    by_cases z : b = c
    · rw [z, gI_k (by have := hx z; omega)]; exact b2
    · rw [gI_o (fun y => z y.symm)]; exact b2
  · by_cases z : b = c
    · rcases hx z with ⟨k1, s', y1, y2⟩ | ⟨k1, w', y1, y2⟩
      · exact ⟨s', y1, by rw [z, k1, gI_s]; exact y2⟩
      · exact ⟨s, d1, by rw [z, k1, gI_k (by decide)]; exact d2⟩
    · exact ⟨s, d1, by rw [gI_o (fun y => z y.symm)]; exact d2⟩
  · by_cases z : b = c
    · rcases hx z with ⟨k1, s', y1, y2⟩ | ⟨k1, w', y1, y2⟩
      · exact ⟨w, e1, by rw [z, k1, gI_k (by decide)]; exact e2⟩
      · exact ⟨w', y1, by rw [z, k1, gI_s]; exact y2⟩
    · exact ⟨w, e1, by rw [gI_o (fun y => z y.symm)]; exact e2⟩
theorem tL.o {b k : Nat} {x : Int32} (h : tL S tp n p c F r r0) (hb : b = c ∨ b = c + 1 ∨ b = c + 2) : qLv (pI S b k x) tp n p ∧ sP (pI S b k x) 72 8 = some c ∧ tcK (pI S b k x) c := by
  have hc := h.2.2.1.1
  have hE : sEq [b] S (pI S b k x) := sEq.rf.pI (by simp)
  exact ⟨h.1.o hE (by rw [List.mem_singleton]; omega) (by rw [List.mem_singleton]; omega), h.2.1, h.2.2.1.eq hE⟩
theorem tL.sea {i s : Nat} (h : tL S tp n p c F r r0) (hi : i < 4) (hs : s < 4) : tL (pI S c 3 (nI (c4 (fun j => if j = i then s else d4 (seaC F) j)))) tp n p c (up1 F (28 + i) (nI s)) r r0 := by
  obtain ⟨o1, o2, o3⟩ := h.o (b := c) (k := 3) (x := nI (c4 (fun j => if j = i then s else d4 (seaC F) j))) (Or.inl rfl)
  obtain ⟨-, -, a3, ⟨v1, v2, v3, v4, v5, v6, v7, v8, v9, v10⟩, a5⟩ := h
  have hl := seaC_l v9
  refine ⟨o1, o2, o3, ⟨?_, ?_, ?_, ?_, fun j hj => ?_, fun j hj => ?_, ?_, v8, fun j hj => ?_, fun j hj => ?_⟩, ?_⟩
  · rw [gI_k (by decide), up1_o (by omega)]; exact v1
  · rw [gI_k (by decide), up1_o (by omega)]; exact v2
  · rw [gI_s]
    refine congrArg nI (c4_cg (fun j hj => ?_))
    by_cases z : j = i
    · rw [if_pos z, z, up1_s, cN_nI (by omega)]
    · rw [if_neg z, up1_o (by omega)]; exact hl.2 j hj
  · rw [gI_k (by decide), v4]
    unfold wC
    rw [up1_o (by omega), up1_o (by omega), up1_o (by omega), up1_o (by omega)]
  · rw [gI_o (by omega), up1_o (by omega)]; exact v5 j hj
  · rw [gI_o (by omega), up1_o (by omega)]; exact v6 j hj
  · rw [up1_o (by omega)]; exact v7
  · by_cases z : j = i
    · exact ⟨s, by rw [z, up1_s], hs⟩
    · rw [up1_o (by omega)]; exact v9 j hj
  · rw [up1_o (by omega)]; exact v10 j hj
  · rw [gI_k (by decide)]; exact a5
theorem tL.wrm {i w : Nat} (h : tL S tp n p c F r r0) (hi : i < 4) (hw : w < 5) : tL (pI S c 4 (nI (mWi (wC F) i w))) tp n p c (up1 F (32 + i) (nI w)) r r0 := by
  obtain ⟨o1, o2, o3⟩ := h.o (b := c) (k := 4) (x := nI (mWi (wC F) i w)) (Or.inl rfl)
  obtain ⟨-, -, a3, ⟨v1, v2, v3, v4, v5, v6, v7, v8, v9, v10⟩, a5⟩ := h
  have hl := wC_l v10
  have v10' : ∀ j, j < 4 → ∃ w', up1 F (32 + i) (nI w) (32 + j) = nI w' ∧ w' < 5 := fun j hj => by
    by_cases z : j = i
    · exact ⟨w, by rw [z, up1_s], hw⟩
    · rw [up1_o (by omega)]; exact v10 j hj
  have hl' := wC_l v10'
  have hm := mWi_ok (c := wC F) (r := i) (x := w) (by omega) hi hw
  refine ⟨o1, o2, o3, ⟨?_, ?_, ?_, ?_, fun j hj => ?_, fun j hj => ?_, ?_, v8, fun j hj => ?_, v10'⟩, ?_⟩
  · rw [gI_k (by decide), up1_o (by omega)]; exact v1
  · rw [gI_k (by decide), up1_o (by omega)]; exact v2
  · rw [gI_k (by decide), v3]
    exact congrArg nI (c4_cg (fun j hj => by rw [up1_o (by omega)]))
  · rw [gI_s]
    refine congrArg nI ?_
    have hdig : ∀ j, j < 4 → mWa (mWi (wC F) i w) j = mWa (wC (up1 F (32 + i) (nI w))) j := fun j hj => by
      rw [hm.2.2 j hj, hl'.2 j hj]
      by_cases z : j = i
      · rw [if_pos z, z, up1_s, cN_nI (by omega)]
      · rw [if_neg z, up1_o (by omega)]; exact hl.2 j hj
    have h6 : mWi (wC F) i w < 625 := by
      have := hm.2.1
      rw [show wC F / 625 = 0 by omega] at this
      omega
    have e1 := dig4 (mWi (wC F) i w)
    have e2 := dig4 (wC (up1 F (32 + i) (nI w)))
    rw [hdig 0 (by omega), hdig 1 (by omega), hdig 2 (by omega), hdig 3 (by omega)] at e1
    have := hl'.1
    omega
  · rw [gI_o (by omega), up1_o (by omega)]; exact v5 j hj
  · rw [gI_o (by omega), up1_o (by omega)]; exact v6 j hj
  · rw [up1_o (by omega)]; exact v7
  · rw [up1_o (by omega)]; exact v9 j hj
  · rw [gI_k (by decide)]; exact a5
theorem tL.cls {i : Nat} {x : Int32} (h : tL S tp n p c F r r0) (hi : i < 4) : tL (pI S (c + 1) i x) tp n p c (up1 F (8 + i) x) r r0 := by
  obtain ⟨o1, o2, o3⟩ := h.o (b := c + 1) (k := i) (x := x) (Or.inr (Or.inl rfl))
  obtain ⟨-, -, a3, ⟨v1, v2, v3, v4, v5, v6, v7, v8, v9, v10⟩, a5⟩ := h
  refine ⟨o1, o2, o3, ⟨?_, ?_, ?_, ?_, fun j hj => ?_, fun j hj => ?_, ?_, v8, fun j hj => ?_, fun j hj => ?_⟩, ?_⟩
  · rw [gI_o (by omega), up1_o (by omega)]; exact v1
  · rw [gI_o (by omega), up1_o (by omega)]; exact v2
  · rw [gI_o (by omega), v3]
    exact congrArg nI (c4_cg (fun j hj => by rw [up1_o (by omega)]))
  · rw [gI_o (by omega), v4]
    unfold wC
    rw [up1_o (by omega), up1_o (by omega), up1_o (by omega), up1_o (by omega)]
  · by_cases z : j = i
    · rw [z, gI_s, up1_s]
    · rw [gI_k z, up1_o (by omega)]; exact v5 j hj
  · rw [gI_o (by omega), up1_o (by omega)]; exact v6 j hj
  · rw [up1_o (by omega)]; exact v7
  · rw [up1_o (by omega)]; exact v9 j hj
  · rw [up1_o (by omega)]; exact v10 j hj
  · rw [gI_o (by omega)]; exact a5
theorem tL.lik {i : Nat} {x : Int32} (h : tL S tp n p c F r r0) (hi : i < 16) : tL (pI S (c + 2) i x) tp n p c (up1 F (12 + i) x) r r0 := by
  obtain ⟨o1, o2, o3⟩ := h.o (b := c + 2) (k := i) (x := x) (Or.inr (Or.inr rfl))
  obtain ⟨-, -, a3, ⟨v1, v2, v3, v4, v5, v6, v7, v8, v9, v10⟩, a5⟩ := h
  refine ⟨o1, o2, o3, ⟨?_, ?_, ?_, ?_, fun j hj => ?_, fun j hj => ?_, ?_, v8, fun j hj => ?_, fun j hj => ?_⟩, ?_⟩
  · rw [gI_o (by omega), up1_o (by omega)]; exact v1
  · rw [gI_o (by omega), up1_o (by omega)]; exact v2
  · rw [gI_o (by omega), v3]
    exact congrArg nI (c4_cg (fun j hj => by rw [up1_o (by omega)]))
  · rw [gI_o (by omega), v4]
    unfold wC
    rw [up1_o (by omega), up1_o (by omega), up1_o (by omega), up1_o (by omega)]
  · rw [gI_o (by omega), up1_o (by omega)]; exact v5 j hj
  · by_cases z : j = i
    · rw [z, gI_s, up1_s]
    · rw [gI_k z, up1_o (by omega)]; exact v6 j hj
  · rw [up1_o (by omega)]; exact v7
  · rw [up1_o (by omega)]; exact v9 j hj
  · rw [up1_o (by omega)]; exact v10 j hj
  · rw [gI_o (by omega)]; exact a5
theorem tL.oth {j : Nat} {x : Int32} (h : tL S tp n p c F r r0) (hj : 36 ≤ j) (h40 : j ≠ 40) : tL S tp n p c (up1 F j x) r r0 := by
  obtain ⟨a1, a2, a3, ⟨v1, v2, v3, v4, v5, v6, v7, v8, v9, v10⟩, a5⟩ := h
  refine ⟨a1, a2, a3, ⟨?_, ?_, ?_, ?_, fun i hi => ?_, fun i hi => ?_, ?_, v8, fun i hi => ?_, fun i hi => ?_⟩, a5⟩
  · rw [up1_o (by omega)]; exact v1
  · rw [up1_o (by omega)]; exact v2
  · rw [v3]; exact congrArg nI (c4_cg (fun j hj => by rw [up1_o (by omega)]))
  · rw [v4]
    unfold wC
    rw [up1_o (by omega), up1_o (by omega), up1_o (by omega), up1_o (by omega)]
  · rw [up1_o (by omega)]; exact v5 i hi
  · rw [up1_o (by omega)]; exact v6 i hi
  · rw [up1_o (by omega)]; exact v7
  · rw [up1_o (by omega)]; exact v9 i hi
  · rw [up1_o (by omega)]; exact v10 i hi
theorem tL.rid {r1 : Nat} (h : tL S tp n p c F r r0) (hr : r1 ≤ 4) : tL S tp n p c (up1 F 1 (nI r1)) r1 r0 := by
  obtain ⟨a1, a2, a3, ⟨v1, v2, v3, v4, v5, v6, v7, v8, v9, v10⟩, a5⟩ := h
  refine ⟨a1, a2, a3, ⟨?_, ?_, ?_, ?_, fun i hi => ?_, fun i hi => ?_, up1_s, hr, fun i hi => ?_, fun i hi => ?_⟩, a5⟩
  · rw [up1_o (by omega)]; exact v1
  · rw [up1_o (by omega)]; exact v2
  · rw [v3]; exact congrArg nI (c4_cg (fun j hj => by rw [up1_o (by omega)]))
  · rw [v4]
    unfold wC
    rw [up1_o (by omega), up1_o (by omega), up1_o (by omega), up1_o (by omega)]
  · rw [up1_o (by omega)]; exact v5 i hi
  · rw [up1_o (by omega)]; exact v6 i hi
  · rw [up1_o (by omega)]; exact v9 i hi
  · rw [up1_o (by omega)]; exact v10 i hi
theorem tL.put0 {r1 : Nat} (h : tL S tp n p c F r r0) : tL (pI S c 0 (nI r1)) tp n p c F r r1 := by
  obtain ⟨o1, o2, o3⟩ := h.o (b := c) (k := 0) (x := nI r1) (Or.inl rfl)
  obtain ⟨-, -, a3, ⟨v1, v2, v3, v4, v5, v6, v7, v8, v9, v10⟩, a5⟩ := h
  exact ⟨o1, o2, o3, ⟨(gI_k (by decide)).trans v1, (gI_k (by decide)).trans v2, (gI_k (by decide)).trans v3, (gI_k (by decide)).trans v4, fun i hi => (congrFun (gI_o (by omega)) i).trans (v5 i hi), fun i hi => (congrFun (gI_o (by omega)) i).trans (v6 i hi), v7, v8, v9, v10⟩, gI_s⟩
end
