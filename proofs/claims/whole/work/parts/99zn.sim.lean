/-! ===== both objects side by side ===== -/
def pstQ (S : ab_S) (n s : Nat) (f : Nat → sT) : Prop := paI S n s f ∧ mA S 42 = nI s ∧ ∀ i, i < s → aGood (mUn (mA S) i) ∧ f ((n + 10 - s + i) % 10) = rowT (mUn (mA S) i)
def tpQ (S : ab_S) (t : Nat) (tp : Nat → Nat) : Prop := t ≤ 900 ∧ sI S 50 1 = nI t ∧ sI S 120 5 = nI t ∧ bT S tp ∧ rT S tp
def ftQ (S : ab_S) : Prop := sI S 72 6 = sI S 120 13 ∧ sI S 72 7 = sI S 120 14 ∧ ∃ N, N ≤ 900 ∧ sI S 72 12 = nI N
def trM (S : ab_S) (q : Nat) : Prop := (sI S (109 + 2 * q) 2 = -1 ∧ sI S 142 q = -1) ∨ ∃ m, m ≤ 40 ∧ sI S (109 + 2 * q) 2 = nI m ∧ sI S 143 q = nI m ∧ sI S (109 + 2 * q) 1 = sI S 142 q ∧ ¬ sI S 142 q = -1 ∧ ∀ i, i < m → sJ S (110 + 2 * q) i = sJ S 144 (40 * q + i)
def imgs (S : ab_S) (im : Nat → Prop) (i : Nat) : Prop := (sI S 122 i = 0 ∧ sP S 70 i = none) ∨ (¬ sI S 122 i = 0 ∧ ∃ d, sP S 70 i = some d ∧ caI S im d (mRes (mA S) i) ∧ aGood (mRes (mA S) i) ∧ sdE S (117 + i) (rowT (mRes (mA S) i)))
def sQ (S : ab_S) (im : Nat → Prop) (n s : Nat) (f : Nat → sT) (t : Nat) (tp : Nat → Nat) : Prop := mSh S ∧ sdE S 55 (rowT (mA S)) ∧ pstQ S n s f ∧ tpQ S t tp ∧ ftQ S ∧ (∀ q, q < 4 → trM S q) ∧ mTr S ∧ ∀ i, i < 2 → imgs S im i
def Sim (S : ab_S) (u : Nat) : Prop := ∃ im c b bh nb st st2 n s f t tp, kBd S im (mA S) c b bh nb st st2 u ∧ sQ S im n s f t tp
theorem mSh.gf {S S' : ab_S} {l : Nat → Prop} (h : mSh S) (g : gF l S S') (hl : ∀ y, 120 ≤ y → y ≤ 144 → ¬ l y) : mSh S' := by
  obtain ⟨h1, h2, h3⟩ := h
  refine ⟨Nat.le_trans h1 g.2.1, fun k hk => by rw [g.2.2.1 _ (by omega)]; exact h2 k hk, fun k hk => ?_⟩
  rw [(g.2.2.2 120 (by omega) (hl 120 (by decide) (by decide))).2.2]
  exact h3 k hk
theorem pstQ.cg {S S' : ab_S} {n s : Nat} {f : Nat → sT} (h : pstQ S n s f) (hp : paI S' n s f) (hA : mA S' = mA S) : pstQ S' n s f := by
  unfold pstQ
  rw [hA]
  exact ⟨hp, h.2⟩
theorem tpQ.cg {S S' : ab_S} {t : Nat} {tp : Nat → Nat} (h : tpQ S t tp) (e50 : sI S' 50 1 = sI S 50 1) (e51 : sI S' 51 = sI S 51) (e5 : sI S' 120 5 = sI S 120 5) (e123 : sI S' 123 = sI S 123) : tpQ S' t tp := by
  obtain ⟨h1, h2, h3, h4, h5⟩ := h
  exact ⟨h1, e50.trans h2, e5.trans h3, fun i hi => by rw [e51]; exact h4 i hi, fun i hi => by rw [e123]; exact h5 i hi⟩
theorem ftQ.cg {S S' : ab_S} (h : ftQ S) (e72 : sI S' 72 = sI S 72) (e13 : sI S' 120 13 = sI S 120 13) (e14 : sI S' 120 14 = sI S 120 14) : ftQ S' := by
  unfold ftQ
  rw [e72, e13, e14]
  exact h
theorem trM.cg {S S' : ab_S} {q : Nat} (h : trM S q) (e1 : sI S' (109 + 2 * q) = sI S (109 + 2 * q)) (e2 : sJ S' (110 + 2 * q) = sJ S (110 + 2 * q)) (e3 : sI S' 142 = sI S 142) (e4 : sI S' 143 = sI S 143) (e5 : sJ S' 144 = sJ S 144) : trM S' q := by
  unfold trM
  rw [e1, e2, e3, e4, e5]
  exact h
theorem mTr.cg {S S' : ab_S} (h : mTr S) (e : sI S' 143 = sI S 143) : mTr S' := by
  unfold mTr
  rw [e]
  exact h
theorem imgs.cg {S S' : ab_S} {im : Nat → Prop} {i : Nat} (h : imgs S im i) (hA : mA S' = mA S) (e1 : sI S' 122 = sI S 122) (e2 : sP S' 70 = sP S 70) (e3 : sI S' (117 + i) = sI S (117 + i)) (hi : imE im S S') : imgs S' im i := by
  rcases h with ⟨h1, h2⟩ | ⟨h1, d, h2, h3, h4, h5⟩
  · exact Or.inl ⟨by rw [e1]; exact h1, by rw [e2]; exact h2⟩
  · refine Or.inr ⟨by rw [e1]; exact h1, d, by rw [e2]; exact h2, ?_, ?_, ?_⟩
    · rw [hA]; exact h3.im hi (fun _ z => z)
    · rw [hA]; exact h4
    · rw [hA]; unfold sdE at h5 ⊢; rw [e3]; exact h5
/-- cells that both sides live by -/
def prot (im : Nat → Prop) (y : Nat) : Prop := y = 51 ∨ (57 ≤ y ∧ y ≤ 72) ∨ (109 ≤ y ∧ y ≤ 118) ∨ (120 ≤ y ∧ y ≤ 144) ∨ im y
/-- a step of the class that asks -/
theorem sQ.cls {S S' : ab_S} {im l : Nat → Prop} {n s t : Nat} {f : Nat → sT} {tp : Nat → Nat} (h : sQ S im n s f t tp) (g : gF l S S') (hl : ∀ y, l y → ¬ prot im y) (e50 : sI S' 50 1 = sI S 50 1) (hd : sdE S' 55 (rowT (mA S))) : sQ S' im n s f t tp ∧ mA S' = mA S := by
  obtain ⟨q1, q2, q3, q4, q5, q6, q7, q8⟩ := h
  have hn := q1.1
  have c : ∀ y, prot im y → y < sn S → sI S' y = sI S y ∧ sJ S' y = sJ S y ∧ sP S' y = sP S y := fun y hy hlt => g.2.2.2 y hlt (fun z => hl y z hy)
  have r : ∀ y, 120 ≤ y → y ≤ 144 → sI S' y = sI S y ∧ sJ S' y = sJ S y ∧ sP S' y = sP S y := fun y h1 h2 => c y (Or.inr (Or.inr (Or.inr (Or.inl ⟨h1, h2⟩)))) (by omega)
  have w : ∀ y, 109 ≤ y → y ≤ 118 → sI S' y = sI S y ∧ sJ S' y = sJ S y ∧ sP S' y = sP S y := fun y h1 h2 => c y (Or.inr (Or.inr (Or.inl ⟨h1, h2⟩))) (by omega)
  have v : ∀ y, 57 ≤ y → y ≤ 72 → sI S' y = sI S y ∧ sJ S' y = sJ S y ∧ sP S' y = sP S y := fun y h1 h2 => c y (Or.inr (Or.inl ⟨h1, h2⟩)) (by omega)
  have hA : mA S' = mA S := (r 121 (by decide) (by decide)).1
  have hm : mSh S' := q1.gf g (fun y h1 h2 z => hl y z (Or.inr (Or.inr (Or.inr (Or.inl ⟨h1, h2⟩)))))
  have e120 := (r 120 (by decide) (by decide)).1
  refine ⟨⟨hm, by rw [hA]; exact hd, q3.cg (q3.1.gf g (by omega) (fun y h1 h2 z => hl y z (Or.inr (Or.inl ⟨h1, by omega⟩)))) hA, q4.cg e50 (c 51 (Or.inl rfl) (by omega)).1 (by rw [e120]) (r 123 (by decide) (by decide)).1, q5.cg (v 72 (by decide) (by decide)).1 (by rw [e120]) (by rw [e120]), fun q hq => (q6 q hq).cg (w _ (by omega) (by omega)).1 (w _ (by omega) (by omega)).2.1 (r 142 (by decide) (by decide)).1 (r 143 (by decide) (by decide)).1 (r 144 (by decide) (by decide)).2.1, q7.cg (r 143 (by decide) (by decide)).1, fun i hi => (q8 i hi).cg hA (r 122 (by decide) (by decide)).1 (v 70 (by decide) (by decide)).2.2 (w _ (by omega) (by omega)).1 (g.im (fun y z w => hl y w (Or.inr (Or.inr (Or.inr (Or.inr z))))))⟩, hA⟩
theorem kBd.rfc {S S' : ab_S} {l : List Nat} {im : Nat → Prop} {a b : Nat → Int32} {c bh nb st st2 u : Nat} (h : kBd S im a c b bh nb st st2 u) (hE : sEq l S S') (hl : ∀ y, y ∈ l → 120 ≤ y ∧ y ≤ 144) : kBd S' im a c b bh nb st st2 u := by
  obtain ⟨q1, q2⟩ := h.bh
  have h0 := h
  obtain ⟨x1, x2, x3, ⟨x4, x5, x6⟩, x7, x8, ⟨x9, x10, x11, x12⟩, x13, -, x16, -, x18, x19⟩ := h0
  have himN : ∀ y ∈ l, ¬ im y := fun y hy z => by have := hl y hy; have := x4 y z; omega
  have n : ∀ y, y < 120 ∨ 144 < y → y ∉ l := fun y y1 z => by have := hl y z; omega
  exact h.step (gF.sE hE) (x1.eq hE) (fun y z => by have := hl y z; omega) x7 sta.rf x9 x10 (x11.eq hE (n _ (by omega)) himN (n _ (by omega)) (n _ (by omega)) (n _ (by omega))) (kpX.of (hE.2.2.1 84 (n _ (by omega)))) (Nat.le_refl _) (x13.eq hE (n _ (by omega)) himN (n _ (by omega)) (n _ (by omega)) (n _ (by omega))) (congrFun (hE.2.2.1 94 (n _ (by omega))) 1) (by unfold idR; rw [hE.2.2.2.2.1]; exact x16) (Nat.le_refl _) x18 x19
/-- a step of the reference that asks -/
theorem sQ.ref {S S' : ab_S} {im : Nat → Prop} {l : List Nat} {n s t : Nat} {f : Nat → sT} {tp : Nat → Nat} (h : sQ S im n s f t tp) (him : imO im) (hE : sEq l S S') (hl : ∀ y, y ∈ l → y = 120 ∨ (124 ≤ y ∧ y ≤ 141)) (hF : fEq S S') : sQ S' im n s f t tp ∧ mA S' = mA S := by
  obtain ⟨q1, q2, q3, q4, q5, q6, q7, q8⟩ := h
  have n : ∀ y, y < 120 ∨ (120 < y ∧ y < 124) ∨ 141 < y → y ∉ l := fun y y1 z => by have := hl y z; omega
  have c : ∀ y, y < 120 ∨ (120 < y ∧ y < 124) ∨ 141 < y → sI S' y = sI S y := fun y hy => hE.2.2.1 y (n y hy)
  have hA : mA S' = mA S := c 121 (by omega)
  refine ⟨⟨q1.eq hE, by rw [hA]; exact q2.eq hE (n _ (by omega)), q3.cg (q3.1.eq hE (fun y h1 h2 => n y (by omega))) hA, q4.cg (congrFun (c 50 (by omega)) 1) (c 51 (by omega)) hF.1 (c 123 (by omega)), q5.cg (c 72 (by omega)) hF.2.1 hF.2.2, fun q hq => (q6 q hq).cg (c _ (by omega)) (hE.2.2.2.1 _ (n _ (by omega))) (c 142 (by omega)) (c 143 (by omega)) (hE.2.2.2.1 _ (n _ (by omega))), q7.cg (c 143 (by omega)), fun i hi => (q8 i hi).cg hA (c 122 (by omega)) (by rw [hE.2.2.2.2.1]) (c _ (by omega)) ((gF.sE hE).im (fun y z w => by have := him y z; have := hl y w; omega))⟩, hA⟩
/-- the kind of what a call answers -/
def rkd (rt : Option FieldType) (v : Option Value) : Prop := match rt with
  | some .long => ∃ y, v = some (.long y)
  | _ => ∃ y, v = some (.int y)
/-- both calls, one behind the other: the same answer, and side by side again -/
def two (G : ab_G) (S : ab_S) (u : Nat) (d1 : Nat) (M1 : ab_M) (A1 : List Value) (d2 : Nat) (M2 : ab_M) (A2 : List Value) : Prop := ab_C G d1 M1 A1 (sw S) (fun v w1 => ∃ S1, w1 = sw S1 ∧ rkd M1.2.2.2 v ∧ mSh S1 ∧ 120 ≤ sn S1 ∧ sK S1 50 = .inr 11 ∧ ab_C G d2 M2 A2 (sw S1) (fun v' w2 => v' = v ∧ ∃ S2, w2 = sw S2 ∧ Sim S2 (u + 128) ∧ gA S S2 904 929 ∧ S2.1 = S.1))
theorem fAs.cls {S S1 : ab_S} {im : Nat → Prop} {a b : Nat → Int32} {c bh nb st st2 u n s t : Nat} {f : Nat → sT} {tp : Nat → Nat} (h : kBd S im a c b bh nb st st2 u) (hQ : sQ S im n s f t tp) (hF : fAs im bh S S1) (hd : sdE S1 55 (rowT (mA S))) : sQ S1 im n s f t tp ∧ mA S1 = mA S := by
  obtain ⟨q1, q2⟩ := h.bh
  have him := h.2.2.2.1.1
  have g : gF (fun y => y = 50 ∨ y = 56 ∨ (84 ≤ y ∧ y ≤ 108) ∨ y = bh ∨ (145 ≤ y ∧ ¬ im y)) S S1 := hF.1
  refine hQ.cls g (fun y z w => ?_) (by rw [hF.2.1]) hd
  rcases w with w | w | w | w | w
  · have z : y = 50 ∨ y = 56 ∨ (84 ≤ y ∧ y ≤ 108) ∨ y = bh ∨ (145 ≤ y ∧ ¬ im y) := z
    omega
  · have z : y = 50 ∨ y = 56 ∨ (84 ≤ y ∧ y ≤ 108) ∨ y = bh ∨ (145 ≤ y ∧ ¬ im y) := z
    omega
  · have z : y = 50 ∨ y = 56 ∨ (84 ≤ y ∧ y ≤ 108) ∨ y = bh ∨ (145 ≤ y ∧ ¬ im y) := z
    omega
  · have z : y = 50 ∨ y = 56 ∨ (84 ≤ y ∧ y ≤ 108) ∨ y = bh ∨ (145 ≤ y ∧ ¬ im y) := z
    omega
  · have z : y = 50 ∨ y = 56 ∨ (84 ≤ y ∧ y ≤ 108) ∨ y = bh ∨ (145 ≤ y ∧ ¬ im y) := z
    have e := him y w
    rcases z with z | z | z | z | z
    · omega
    · omega
    · omega
    · rw [z] at w; exact q2 w
    · exact z.2 w
theorem Sim.up {S : ab_S} {u u' : Nat} (h : Sim S u) (hu : u ≤ u') : Sim S u' := by
  obtain ⟨im, c, b, bh, nb, st, st2, n, s, f, t, tp, h1, h2⟩ := h
  exact ⟨im, c, b, bh, nb, st, st2, n, s, f, t, tp, h1.up hu, h2⟩
/-- what a reference's asking leaves -/
theorem ask_ref {S S1 S2 : ab_S} {im : Nat → Prop} {l : List Nat} {c bh nb st st2 u n s t : Nat} {b : Nat → Int32} {f : Nat → sT} {tp : Nat → Nat} {m z : Nat} (h : kBd S1 im (mA S1) c b bh nb st st2 u) (hQ : sQ S1 im n s f t tp) (hE : sEq l S1 S2) (hl : ∀ y, y ∈ l → y = 120 ∨ (124 ≤ y ∧ y ≤ 141)) (hF : fEq S1 S2) (hG : gA S S1 m z) (hm : m ≤ 904) (hz : z ≤ 929) (hk : S1.1 = S.1) {u' : Nat} (hu : u ≤ u') : Sim S2 u' ∧ gA S S2 904 929 ∧ S2.1 = S.1 := by
  obtain ⟨q1, q2⟩ := hQ.ref h.2.2.2.1.1 hE hl hF
  refine ⟨⟨im, c, b, bh, nb, st, st2, n, s, f, t, tp, ?_, q1⟩, (hG.tr (gA.sE hE)).le (by omega) (by omega), hE.1.trans hk⟩
  rw [q2]
  exact (h.rfc hE (fun y hy => by have := hl y hy; omega)).up hu
theorem qL_in : ∀ y, y ∈ qL → y = 120 ∨ (124 ≤ y ∧ y ≤ 141) := fun y hy => by
  unfold qL at hy
  simp only [List.mem_cons, List.not_mem_nil, or_false] at hy
  omega
theorem qD_in : ∀ y, y ∈ (121 :: qL) → y = 121 ∨ y = 120 ∨ (124 ≤ y ∧ y ≤ 141) := fun y hy => by
  unfold qL at hy
  simp only [List.mem_cons, List.not_mem_nil, or_false] at hy
  omega
