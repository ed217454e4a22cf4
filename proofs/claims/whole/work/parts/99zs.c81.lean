/-! ===== deeds on both sides ===== -/
theorem aNd_ag {a X : Nat → Int32} {s : Nat} (hs : s ≤ 10) : ag X (aNd a X s) := fun j hj => by
  unfold aNd mNote
  rw [if_neg (by omega), if_neg (by split <;> omega), if_neg (by omega)]
/-- the note that was made, and those before -/
theorem note_ag {a X : Nat → Int32} {s : Nat} (hs : s ≤ 10) (hX : ∀ i, (i < 28 ∨ 42 ≤ i) → X i = a i) {i : Nat} (hi : i < (if s + 1 ≤ 10 then s + 1 else 10)) : (i = (if s = 10 then 9 else s) ∧ ag a (mUn (aNd a X s) i)) ∨ ∃ i', i' < s ∧ i' = (if s = 10 then i + 1 else i) ∧ i ≠ (if s = 10 then 9 else s) ∧ ag (mUn a i') (mUn (aNd a X s) i) := by
  have hb : i < 10 := by split at hi <;> omega
  by_cases e : i = (if s = 10 then 9 else s)
  · refine Or.inl ⟨e, fun j hj => ?_⟩
    unfold mUn
    by_cases z : 28 ≤ j ∧ j < 28 + 14
    · rw [if_pos z]
      unfold aNd mNote
      rw [if_neg (by omega), if_pos (by rw [← e]; omega), ← e]
      show a (28 + (43 + 14 * i + (j - 28) - (43 + 14 * i))) = a j
      rw [show 28 + (43 + 14 * i + (j - 28) - (43 + 14 * i)) = j by omega]
    · rw [if_neg z, if_neg (by omega)]
      unfold aNd mNote
      rw [if_neg (by omega), if_neg (by split <;> omega), if_neg (by omega)]
      exact hX j (by omega)
  · refine Or.inr ⟨if s = 10 then i + 1 else i, ?_, rfl, e, fun j hj => ?_⟩
    · split at hi <;> split <;> split at e <;> omega
    · unfold mUn
      by_cases z : 28 ≤ j ∧ j < 28 + 14
      · rw [if_pos z, if_pos z]
        unfold aNd mNote
        by_cases y : s = 10
        · rw [if_pos y] at e
          rw [if_neg (by omega), if_neg (by rw [if_pos y]; omega), if_pos ⟨y, by omega, by omega⟩, if_pos y, hX _ (by omega)]
          congr 1
          omega
        · rw [if_neg y] at e
          rw [if_neg (by omega), if_neg (by rw [if_neg y]; split at hi <;> omega), if_neg (fun w => y w.1), if_neg y]
          exact hX _ (by omega)
      · rw [if_neg z, if_neg z, if_neg (by omega), if_neg (by omega)]
        unfold aNd mNote
        rw [if_neg (by omega), if_neg (by split <;> omega), if_neg (by omega)]
        exact hX j (by omega)
/-- cells that deeds of the class touch -/
def dC (bh y : Nat) : Prop := y = 50 ∨ (55 ≤ y ∧ y ≤ 68) ∨ (84 ≤ y ∧ y ≤ 108) ∨ y = bh
theorem dL_C {bh : Nat} : ∀ y, y ∈ dL bh → dC bh y := fun y w => by
  simp only [dL, List.mem_cons, List.not_mem_nil, or_false] at w
  unfold dC
  omega
theorem sQ.dd {S S1 : ab_S} {im : Nat → Prop} {l : List Nat} {bh n s n' s' t : Nat} {f f' : Nat → sT} {tp : Nat → Nat} (h : sQ S im n s f t tp) (him : imO im) (hb : (bh = 88 ∨ bh = 119 ∨ 145 ≤ bh) ∧ ¬ im bh) (hE : sEq l S S1) (hl : ∀ y, y ∈ l → dC bh y) (e50 : sI S1 50 1 = sI S 50 1) : mSh S1 ∧ mA S1 = mA S ∧ tpQ S1 t tp ∧ ftQ S1 ∧ (∀ q, q < 4 → trM S1 q) ∧ mTr S1 ∧ (∀ i, i < 2 → imgs S1 im i) ∧ ∀ y, 120 ≤ y → y ≤ 144 → sI S1 y = sI S y ∧ sJ S1 y = sJ S y := by
  obtain ⟨q1, q2, q3, q4, q5, q6, q7, q8⟩ := h
  have n1 : ∀ y, (y = 51 ∨ (69 ≤ y ∧ y ≤ 83) ∨ (109 ≤ y ∧ y ≤ 118) ∨ (120 ≤ y ∧ y ≤ 144)) → y ∉ l := fun y y1 w => by have w := hl y w; unfold dC at w; omega
  have c : ∀ y, (y = 51 ∨ (69 ≤ y ∧ y ≤ 83) ∨ (109 ≤ y ∧ y ≤ 118) ∨ (120 ≤ y ∧ y ≤ 144)) → sI S1 y = sI S y ∧ sJ S1 y = sJ S y := fun y hy => ⟨hE.2.2.1 y (n1 y hy), hE.2.2.2.1 y (n1 y hy)⟩
  have hA : mA S1 = mA S := (c 121 (by omega)).1
  have e120 := (c 120 (by omega)).1
  refine ⟨q1.eq hE, hA, q4.cg e50 (c 51 (by omega)).1 (by rw [e120]) (c 123 (by omega)).1, q5.cg (c 72 (by omega)).1 (by rw [e120]) (by rw [e120]), fun q hq => (q6 q hq).cg (c _ (by omega)).1 (c _ (by omega)).2 (c 142 (by omega)).1 (c 143 (by omega)).1 (c 144 (by omega)).2, q7.cg (c 143 (by omega)).1, fun i hi => (q8 i hi).cg hA (c 122 (by omega)).1 (by rw [hE.2.2.2.2.1]) (c _ (by omega)).1 ((gF.sE hE).im (fun y z w => ?_)), fun y h1 h2 => c y (by omega)⟩
  have e := him y z
  have w := hl y w
  unfold dC at w
  rcases w with w | w | w | w
  · omega
  · omega
  · omega
  · rw [w] at z; exact hb.2 z
/-- refused on both sides -/
theorem deed_no {S : ab_S} {u : Nat} {im : Nat → Prop} {c bh nb st st2 n s t : Nat} {b : Nat → Int32} {f : Nat → sT} {tp : Nat → Nat} (h : kBd S im (mA S) c b bh nb st st2 u) (hQ : sQ S im n s f t tp) (hu : u + 128 < 2 ^ 20) {S1 S2 : ab_S} {b' : Nat → Int32} {st' u1 : Nat} {l : List Nat} (hE : sEq l S S1) (hl : ∀ y, y ∈ l → dC bh y) (e50 : sI S1 50 1 = sI S 50 1) (hB : kBd S1 im (mA S) c b' bh nb st' st2 u1) (hu1 : u1 ≤ u + 128) (hd : sdE S1 55 (rowT (mA S))) (hp : paI S1 n s f) (hq : qt S1 S2) : Sim S2 (u + 128) ∧ gA S S2 904 929 ∧ S2.1 = S.1 := by
  obtain ⟨r1, r2, r3, r4, r5, r6, r7, r8⟩ := hQ.dd (n' := 0) (s' := 0) (f' := f) h.2.2.2.1.1 h.bh hE hl e50
  have hQ1 : sQ S1 im n s f t tp := ⟨r1, by rw [r2]; exact hd, hQ.2.2.1.cg hp r2, r3, r4, r5, r6, r7⟩
  exact fin_q (by rw [r2]; exact hB) hQ1 hq (gA.sE hE) (by omega) (by omega) hE.1 hu1
/-- done on both sides -/
theorem deed_yes {S : ab_S} {u : Nat} {im : Nat → Prop} {c bh nb st st2 n s t : Nat} {b : Nat → Int32} {f : Nat → sT} {tp : Nat → Nat} (h : kBd S im (mA S) c b bh nb st st2 u) (hQ : sQ S im n s f t tp) (hu : u + 128 < 2 ^ 20) {S1 S2 : ab_S} {b' X : Nat → Int32} {st' u1 : Nat} {l l2 : List Nat} (hE : sEq l S S1) (hl : ∀ y, y ∈ l → dC bh y) (e50 : sI S1 50 1 = sI S 50 1) (hB : kBd S1 im X c b' bh nb st' st2 u1) (hu1 : u1 ≤ u + 128) (hd : sdE S1 55 (rowT X)) (hp : paI S1 ((n + 1) % 10) (if s + 1 ≤ 10 then s + 1 else 10) (up1 f n (rowT (mA S)))) (hX : ∀ i, (i < 28 ∨ 42 ≤ i) → X i = mA S i) (hE2 : sEq l2 S1 S2) (hl2 : ∀ y, y ∈ l2 → y = 120 ∨ y = 121 ∨ (124 ≤ y ∧ y ≤ 141)) (hF : fEq S1 S2) (hA2 : mA S2 = aNd (mA S) X s) : Sim S2 (u + 128) ∧ gA S S2 904 929 ∧ S2.1 = S.1 := by
  have him := h.2.2.2.1.1
  have ha := h.2.2.2.2.1
  obtain ⟨r1, r2, r3, r4, r5, r6, r7, r8⟩ := hQ.dd (n' := 0) (s' := 0) (f' := f) him h.bh hE hl e50
  have hgX : aGood X := hB.2.2.2.2.1
  obtain ⟨pa, p42, pn⟩ := hQ.2.2.1
  have hs := pa.2.2.2.1
  have hn := pa.2.1
  have hag : ag X (mA S2) := by rw [hA2]; exact aNd_ag hs
  have hB2 := ((hB.rfc hE2 (fun y hy => by have := hl2 y hy; omega)).agr hag).up hu1
  have n2 : ∀ y, y < 120 ∨ (121 < y ∧ y < 124) ∨ 141 < y → y ∉ l2 := fun y y1 w => by have := hl2 y w; omega
  have c2 : ∀ y, y < 120 ∨ (121 < y ∧ y < 124) ∨ 141 < y → sI S2 y = sI S1 y ∧ sJ S2 y = sJ S1 y := fun y hy => ⟨hE2.2.2.1 y (n2 y hy), hE2.2.2.2.1 y (n2 y hy)⟩
  have hfar : ∀ j, 1084 ≤ j → mA S2 j = mA S1 j := fun j hj => by
    rw [hA2, r2]
    unfold aNd mNote
    rw [if_neg (by omega), if_neg (by split <;> omega), if_neg (by omega)]
    exact hX j (by omega)
  refine ⟨⟨im, c, tl b' (mA S2), bh, nb, st', st2, (n + 1) % 10, (if s + 1 ≤ 10 then s + 1 else 10), up1 f n (rowT (mA S)), t, tp, hB2, r1.eq hE2, ?_, ⟨hp.eq hE2 (fun y h1 h2 => n2 y (by omega)), ?_, fun i hi => ?_⟩, r3.cg (congrFun (c2 50 (by omega)).1 1) (c2 51 (by omega)).1 hF.1 (c2 123 (by omega)).1, r4.cg (c2 72 (by omega)).1 hF.2.1 hF.2.2, fun q hq => (r5 q hq).cg (c2 _ (by omega)).1 (c2 _ (by omega)).2 (c2 142 (by omega)).1 (c2 143 (by omega)).1 (c2 144 (by omega)).2, r6.cg (c2 143 (by omega)).1, fun i hi => ?_⟩, ((gA.sE hE).tr (gA.sE hE2)).le (by omega) (by omega), hE2.1.trans hE.1⟩
  · rw [hag.row hgX.1]; exact hd.eq hE2 (n2 _ (by omega))
  · rw [hA2]
    unfold aNd mNote
    rw [if_pos rfl]
    congr 1
    split <;> split <;> omega
  · rw [hA2]
    rcases note_ag hs hX hi with ⟨e1, e2⟩ | ⟨i', e0, e1, e2, e3⟩
    · refine ⟨e2.good ha, ?_⟩
      rw [e2.row ha.1, show ((n + 1) % 10 + 10 - (if s + 1 ≤ 10 then s + 1 else 10) + i) % 10 = n by split at e1 <;> split <;> omega]
      exact up1_s
    · obtain ⟨g1, g2⟩ := pn i' e0
      refine ⟨e3.good g1, ?_⟩
      rw [e3.row g1.1, ← g2, show ((n + 1) % 10 + 10 - (if s + 1 ≤ 10 then s + 1 else 10) + i) % 10 = (n + 10 - s + i') % 10 by split at e1 <;> split at e2 <;> split <;> omega]
      exact up1_o (by split at e1 <;> split at e2 <;> omega)
  · have em := mRes_far hfar i
    rcases r7 i hi with ⟨w1, w2⟩ | ⟨w1, dd, w2, w3, w4, w5⟩
    · exact Or.inl ⟨by rw [(c2 122 (by omega)).1]; exact w1, by rw [hE2.2.2.2.2.1]; exact w2⟩
    · refine Or.inr ⟨by rw [(c2 122 (by omega)).1]; exact w1, dd, by rw [hE2.2.2.2.2.1]; exact w2, ?_, by rw [em]; exact w4, ?_⟩
      · rw [em]
        exact w3.im ((gF.sE hE2).im (fun y z w => by have := him y z; have := hl2 y w; omega)) (fun _ z => z)
      · rw [em]
        unfold sdE at w5 ⊢
        rw [(c2 (117 + i) (by omega)).1]
        exact w5
/-- from a step of the reference behind m0 -/
theorem m0_step {S1 S2 : ab_S} {l : List Nat} (hE : sEq l (m0 S1) S2) (hl : ∀ y, y ∈ l → y = 121 ∨ (124 ≤ y ∧ y ≤ 141)) : sEq (120 :: l) S1 S2 ∧ (∀ y, y ∈ (120 :: l) → y = 120 ∨ y = 121 ∨ (124 ≤ y ∧ y ≤ 141)) ∧ fEq S1 S2 := by
  have n : 120 ∉ l := fun z => by have := hl _ z; omega
  have e120 := hE.2.2.1 120 n
  refine ⟨(m0_S.mono (fun y hy => by rw [List.mem_singleton.mp hy]; exact List.Mem.head _)).tr (hE.mono (fun y hy => List.Mem.tail _ hy)), fun y hy => ?_, ?_, ?_, ?_⟩
  · rcases List.mem_cons.mp hy with z | z
    · exact Or.inl z
    · have := hl y z; omega
  all_goals (rw [e120]; exact gI_k (by decide))
