/-! ===== the tape, the trays ===== -/
theorem m0_S {S : ab_S} : sEq [120] S (m0 S) := sEq.rf.pI (List.mem_singleton.mpr rfl)
theorem m0_F {S : ab_S} : fEq S (m0 S) := ⟨gI_k (by decide), gI_k (by decide), gI_k (by decide)⟩
/-- a step of the reference that leaves all that is told -/
def qt (S S' : ab_S) : Prop := ∃ l, sEq l S S' ∧ (∀ y, y ∈ l → y = 120 ∨ y = 121 ∨ (124 ≤ y ∧ y ≤ 144)) ∧ mA S' = mA S ∧ sI S' 142 = sI S 142 ∧ sI S' 143 = sI S 143 ∧ sJ S' 144 = sJ S 144 ∧ fEq S S'
theorem qt_m0 {S : ab_S} : qt S (m0 S) := ⟨[120], m0_S, fun y hy => Or.inl (List.mem_singleton.mp hy), m0_S.2.2.1 121 (by decide), m0_S.2.2.1 142 (by decide), m0_S.2.2.1 143 (by decide), m0_S.2.2.2.1 144 (by decide), m0_F⟩
theorem qt.mE {S S' : ab_S} {l : List Nat} (hE : sEq l (m0 S) S') (hl : ∀ y, y ∈ l → y = 121 ∨ (124 ≤ y ∧ y ≤ 141)) (hA : mA S' = mA (m0 S)) : qt S S' := by
  have n : ∀ y, y = 120 ∨ 141 < y → y ∉ l := fun y y1 z => by have := hl y z; omega
  have e120 := hE.2.2.1 120 (n _ (by omega))
  refine ⟨120 :: l, (m0_S.mono (fun y hy => by rw [List.mem_singleton.mp hy]; exact List.Mem.head _)).tr (hE.mono (fun y hy => List.Mem.tail _ hy)), fun y hy => ?_, hA, hE.2.2.1 142 (n _ (by omega)), hE.2.2.1 143 (n _ (by omega)), hE.2.2.2.1 144 (n _ (by omega)), ?_, ?_, ?_⟩
  · rcases List.mem_cons.mp hy with z | z
    · exact Or.inl z
    · have := hl y z; omega
  all_goals (rw [e120]; exact gI_k (by decide))
theorem qt.D {S S' : ab_S} (hE : sEq (121 :: qL) S S') (hA : mA S' = mA S) (hF : fEq S S') : qt S S' := by
  have n : ∀ y, 141 < y → y ∉ (121 :: qL) := fun y y1 z => by have := qD_in y z; omega
  exact ⟨_, hE, fun y hy => by have := qD_in y hy; omega, hA, hE.2.2.1 142 (n _ (by omega)), hE.2.2.1 143 (n _ (by omega)), hE.2.2.2.1 144 (n _ (by omega)), hF⟩
theorem sQ.qt {S S' : ab_S} {im : Nat → Prop} {n s t : Nat} {f : Nat → sT} {tp : Nat → Nat} (h : sQ S im n s f t tp) (him : imO im) (hq : qt S S') : sQ S' im n s f t tp := by
  obtain ⟨l, hE, hl, hA, h42, h43, h44, hF⟩ := hq
  obtain ⟨q1, q2, q3, q4, q5, q6, q7, q8⟩ := h
  have n : ∀ y, y < 120 ∨ (121 < y ∧ y < 124) ∨ 144 < y → y ∉ l := fun y y1 z => by have := hl y z; omega
  have c : ∀ y, y < 120 ∨ (121 < y ∧ y < 124) ∨ 144 < y → sI S' y = sI S y := fun y hy => hE.2.2.1 y (n y hy)
  exact ⟨q1.eq hE, by rw [hA]; exact q2.eq hE (n _ (by omega)), q3.cg (q3.1.eq hE (fun y h1 h2 => n y (by omega))) hA, q4.cg (congrFun (c 50 (by omega)) 1) (c 51 (by omega)) hF.1 (c 123 (by omega)), q5.cg (c 72 (by omega)) hF.2.1 hF.2.2, fun q hq => (q6 q hq).cg (c _ (by omega)) (hE.2.2.2.1 _ (n _ (by omega))) h42 h43 h44, q7.cg h43, fun i hi => (q8 i hi).cg hA (c 122 (by omega)) (by rw [hE.2.2.2.2.1]) (c _ (by omega)) ((gF.sE hE).im (fun y z w => by have := him y z; have := hl y w; omega))⟩
/-- side by side again -/
theorem fin_q {S S1 S2 : ab_S} {im : Nat → Prop} {c bh nb st st2 u u' n s t m z : Nat} {b : Nat → Int32} {f : Nat → sT} {tp : Nat → Nat} (h : kBd S1 im (mA S1) c b bh nb st st2 u) (hQ : sQ S1 im n s f t tp) (hq : qt S1 S2) (hG : gA S S1 m z) (hm : m ≤ 904) (hz : z ≤ 929) (hk : S1.1 = S.1) (hu : u ≤ u') : Sim S2 u' ∧ gA S S2 904 929 ∧ S2.1 = S.1 := by
  have hQ2 := hQ.qt h.2.2.2.1.1 hq
  obtain ⟨l, hE, hl, hA, -⟩ := hq
  refine ⟨⟨im, c, b, bh, nb, st, st2, n, s, f, t, tp, ?_, hQ2⟩, (hG.tr (gA.sE hE)).le (by omega) (by omega), hE.1.trans hk⟩
  rw [hA]
  exact (h.rfc hE (fun y hy => by have := hl y hy; omega)).up hu
/-- a call that was refused on the class's side: the reference refuses too -/
theorem no_ask {G : ab_G} {S : ab_S} {u : Nat} {im : Nat → Prop} {c bh nb st st2 n s t : Nat} {b : Nat → Int32} {f : Nat → sT} {tp : Nat → Nat} (h : kBd S im (mA S) c b bh nb st st2 u) (hQ : sQ S im n s f t tp) (hu : u + 128 < 2 ^ 20) {m z d2 : Nat} {M1 M2 : ab_M} {A2 : List Value} {X : Value} {v : Option Value} {w1 : ab_H} (hX : rkd M1.2.2.2 (some X)) (hm : m ≤ 904) (hz : z ≤ 929) (hp : pAs S im (mA S) c bh nb u m z (some X) v w1) (hr : ∀ S1, mSh S1 → mA S1 = mA S → sQ S1 im n s f t tp → (∀ y, 120 ≤ y → y ≤ 144 → sI S1 y = sI S y ∧ sJ S1 y = sJ S y) → ab_C G d2 M2 A2 (sw S1) (fun v' w2 => v' = some X ∧ ∃ S2, w2 = sw S2 ∧ qt S1 S2)) : ∃ S1, w1 = sw S1 ∧ rkd M1.2.2.2 v ∧ mSh S1 ∧ 120 ≤ sn S1 ∧ sK S1 50 = .inr 11 ∧ ab_C G d2 M2 A2 (sw S1) (fun v' w2 => v' = v ∧ ∃ S2, w2 = sw S2 ∧ Sim S2 (u + 128) ∧ gA S S2 904 929 ∧ S2.1 = S.1) := by
  obtain ⟨rfl, S1, b', st', st2', rfl, hF, hG, hB, hd⟩ := hp
  obtain ⟨hQ1, hA⟩ := fAs.cls h hQ hF hd
  obtain ⟨k1, k2⟩ := h.bh
  have hk : ∀ y, 120 ≤ y → y ≤ 144 → sI S1 y = sI S y ∧ sJ S1 y = sJ S y := fun y h1 h2 => by
    have e := hF.1.2.2.2 y (by have := hQ.1.1; omega) (fun w => by have w : y = 50 ∨ y = 56 ∨ (84 ≤ y ∧ y ≤ 108) ∨ y = bh ∨ (145 ≤ y ∧ ¬ im y) := w; omega)
    exact ⟨e.1, e.2.1⟩
  refine ⟨S1, rfl, hX, hQ1.1, hB.1.1, hB.1.2.1 0 (by decide), (hr S1 hQ1.1 hA hQ1 hk).mono (fun v' w2 y => ?_)⟩
  obtain ⟨rfl, S2, rfl, hq⟩ := y
  exact ⟨rfl, S2, rfl, fin_q (by rw [hA]; exact hB) hQ1 hq hG hm hz hF.1.1 (by omega)⟩
theorem w_feed {G : ab_G} {S : ab_S} {u : Nat} {im : Nat → Prop} {c bh nb st st2 n s t : Nat} {b : Nat → Int32} {f : Nat → sT} {tp : Nat → Nat} (h : kBd S im (mA S) c b bh nb st st2 u) (hQ : sQ S im n s f t tp) (hu : u + 128 < 2 ^ 20) (x1 x2 x3 x4 x5 : Int32) : two G S u 7 M_s_feed [.ref 50, .int x1, .int x2, .int x3, .int x4, .int x5] 0 M_m_feed [.ref 120, .int x1, .int x2, .int x3, .int x4, .int x5] := by
  have ha := h.2.2.2.2.1
  have ht := hQ.2.1
  have him := h.2.2.2.1.1
  obtain ⟨t1, t2, t3, t4, t5⟩ := hQ.2.2.2.1
  have hx := h.1
  refine (p_s_feed h ht t1 t2 t4 x1 x2 x3 x4 x5).mono (fun v w1 z => ?_)
  rcases z with ⟨z1, rfl, rfl⟩ | ⟨z1, rfl, S1, rfl, hE, z2, z3, z4, hB, hd⟩
  · refine ⟨S, rfl, ⟨_, rfl⟩, hQ.1, hx.1, hx.2.1 0 (by decide), (c_m_feedN hQ.1 t1 t3 x1 x2 x3 x4 x5 z1).mono (fun v' w2 y => ?_)⟩
    obtain ⟨rfl, rfl⟩ := y
    exact ⟨rfl, _, rfl, fin_q h hQ qt_m0 (m := 0) (z := 0) gA.rf (by omega) (by omega) rfl (by omega)⟩
  · have nl : ∀ y, 51 < y → y ∉ [50, 51] := fun y y1 w => by simp only [List.mem_cons, List.not_mem_nil, or_false] at w; omega
    have c1 : ∀ y, 51 < y → sI S1 y = sI S y := fun y hy => hE.2.2.1 y (nl y hy)
    have hm1 : mSh S1 := hQ.1.eq hE
    have hA1 : mA S1 = mA S := c1 121 (by decide)
    have hr1 : rT S1 tp := fun i hi => by rw [c1 123 (by decide)]; exact t5 i hi
    refine ⟨S1, rfl, (by exact ⟨_, rfl⟩), hm1, hB.1.1, hB.1.2.1 0 (by decide), (c_m_feed hm1 t1 (by rw [c1 120 (by decide)]; exact t3) x1 x2 x3 x4 x5 hr1 z1).mono (fun v' w2 y => ?_)⟩
    obtain ⟨rfl, S2, rfl, m1, m2, m3, m4, m5, m6⟩ := y
    have nl2 : ∀ y, y ≠ 120 → y ≠ 123 → y ∉ [120, 123] := fun y y1 y2 w => by simp only [List.mem_cons, List.not_mem_nil, or_false] at w; omega
    have c2 : ∀ y, y ≠ 120 → y ≠ 123 → sI S2 y = sI S1 y := fun y h1 h2 => m2.2.2.1 y (nl2 y h1 h2)
    have hA2 : mA S2 = mA S := (c2 121 (by decide) (by decide)).trans hA1
    obtain ⟨q1, q2, q3, q4, q5, q6, q7, q8⟩ := hQ
    have e120 := c1 120 (by decide)
    have hB2 : kBd S2 im (mA S2) c b bh nb st st2 (u + 128) := by
      rw [hA2]
      exact (hB.rfc m2 (fun y w => by simp only [List.mem_cons, List.not_mem_nil, or_false] at w; omega)).up (by omega)
    have hpa : paI S2 n s f := (q3.1.eq hE (fun y h1 h2 => nl y (by omega))).eq m2 (fun y h1 h2 => nl2 y (by omega) (by omega))
    refine ⟨rfl, S2, rfl, ⟨im, c, b, bh, nb, st, st2, n, s, f, t + 20, fdT tp t x1 x2 x3 x4 x5, hB2, m1, ?_, q3.cg hpa hA2, ⟨by omega, (congrFun (c2 50 (by decide) (by decide)) 1).trans z3, m4, fun i hi => ?_, m3⟩, ?_, fun q hq => ?_, q7.cg ((c2 143 (by decide) (by decide)).trans (c1 143 (by decide))), fun i hi => ?_⟩, ((gA.sE hE).tr (gA.sE m2)).le (by omega) (by omega), m2.1.trans hE.1⟩
    · rw [hA2]; exact hd.eq m2 (nl2 _ (by decide) (by decide))
    · rw [c2 51 (by decide) (by decide)]; exact z2 i hi
    · refine q5.cg ((c2 72 (by decide) (by decide)).trans (c1 72 (by decide))) ?_ ?_
      · rw [m5, e120]
      · rw [m6, e120]
    · exact (q6 q hq).cg ((c2 _ (by omega) (by omega)).trans (c1 _ (by omega))) ((m2.2.2.2.1 _ (nl2 _ (by omega) (by omega))).trans (hE.2.2.2.1 _ (nl _ (by omega)))) ((c2 142 (by decide) (by decide)).trans (c1 142 (by decide))) ((c2 143 (by decide) (by decide)).trans (c1 143 (by decide))) ((m2.2.2.2.1 _ (nl2 _ (by omega) (by omega))).trans (hE.2.2.2.1 _ (nl _ (by omega))))
    · exact (q8 i hi).cg hA2 ((c2 122 (by decide) (by decide)).trans (c1 122 (by decide))) (by rw [m2.2.2.2.2.1, hE.2.2.2.2.1]) ((c2 _ (by omega) (by omega)).trans (c1 _ (by omega))) ((gF.tr ((gF.sE hE).mono (l' := fun y => y = 50 ∨ y = 51 ∨ y = 120 ∨ y = 123) (fun y _ w => by simp only [List.mem_cons, List.not_mem_nil, or_false] at w; omega)) ((gF.sE m2).mono (fun y _ w => by simp only [List.mem_cons, List.not_mem_nil, or_false] at w; omega))).im (fun y w1 w2 => by have := him y w1; have w2 : y = 50 ∨ y = 51 ∨ y = 120 ∨ y = 123 := w2; omega))
/-- trays changed on both sides -/
theorem tray_two {S : ab_S} {u : Nat} {im : Nat → Prop} {c bh nb st st2 n s t : Nat} {b : Nat → Int32} {f : Nat → sT} {tp : Nat → Nat} (h : kBd S im (mA S) c b bh nb st st2 u) (hQ : sQ S im n s f t tp) (hu : u + 128 < 2 ^ 20) {S1 S2 : ab_S} {b' : Nat → Int32} {st' u1 : Nat} {l1 l2 : List Nat} (hE1 : sEq l1 S S1) (hl1 : ∀ y, y ∈ l1 → (84 ≤ y ∧ y ≤ 93) ∨ y = bh ∨ (104 ≤ y ∧ y ≤ 116)) (hB : kBd S1 im (mA S) c b' bh nb st' st2 u1) (hu1 : u1 ≤ u + 128) (hd : sdE S1 55 (rowT (mA S))) (hE2 : sEq l2 S1 S2) (hl2 : ∀ y, y ∈ l2 → y = 120 ∨ (124 ≤ y ∧ y ≤ 144)) (hF : fEq S1 S2) (hT : ∀ q, q < 4 → trM S2 q) (hr : mTr S2) : Sim S2 (u + 128) ∧ gA S S2 904 929 ∧ S2.1 = S.1 := by
  obtain ⟨q1, q2, q3, q4, q5, q6, q7, q8⟩ := hQ
  obtain ⟨k1, k2⟩ := h.bh
  have him := h.2.2.2.1.1
  have n1 : ∀ y, y < 84 ∨ (116 < y ∧ y < 119) ∨ (120 ≤ y ∧ y ≤ 144) → y ∉ l1 := fun y y1 w => by have := hl1 y w; omega
  have n2 : ∀ y, y < 120 ∨ (120 < y ∧ y < 124) ∨ 144 < y → y ∉ l2 := fun y y1 w => by have := hl2 y w; omega
  have c1 : ∀ y, y < 84 ∨ (116 < y ∧ y < 119) ∨ (120 ≤ y ∧ y ≤ 144) → sI S1 y = sI S y := fun y hy => hE1.2.2.1 y (n1 y hy)
  have c2 : ∀ y, y < 120 ∨ (120 < y ∧ y < 124) ∨ 144 < y → sI S2 y = sI S1 y := fun y hy => hE2.2.2.1 y (n2 y hy)
  have cc : ∀ y, y < 84 ∨ (116 < y ∧ y < 119) ∨ (120 < y ∧ y < 124) → sI S2 y = sI S y := fun y hy => (c2 y (by omega)).trans (c1 y (by omega))
  have hA2 : mA S2 = mA S := cc 121 (by omega)
  have e120 := c1 120 (by omega)
  have hB2 : kBd S2 im (mA S2) c b' bh nb st' st2 (u + 128) := by
    rw [hA2]
    exact (hB.rfc hE2 (fun y hy => by have := hl2 y hy; omega)).up hu1
  have hpa : paI S2 n s f := (q3.1.eq hE1 (fun y h1 h2 => n1 y (by omega))).eq hE2 (fun y h1 h2 => n2 y (by omega))
  refine ⟨⟨im, c, b', bh, nb, st', st2, n, s, f, t, tp, hB2, (q1.eq hE1).eq hE2, ?_, q3.cg hpa hA2, q4.cg (congrFun (cc 50 (by omega)) 1) (cc 51 (by omega)) (hF.1.trans (by rw [e120])) (cc 123 (by omega)), q5.cg (cc 72 (by omega)) (hF.2.1.trans (by rw [e120])) (hF.2.2.trans (by rw [e120])), hT, hr, fun i hi => ?_⟩, ((gA.sE hE1).tr (gA.sE hE2)).le (by omega) (by omega), hE2.1.trans hE1.1⟩
  · rw [hA2]; exact hd.eq hE2 (n2 _ (by omega))
  · refine (q8 i hi).cg hA2 (cc 122 (by omega)) (by rw [hE2.2.2.2.2.1, hE1.2.2.2.2.1]) (cc _ (by omega)) ⟨by rw [hE2.2.2.2.2.2.1, hE1.2.2.2.2.2.1]; exact Nat.le_refl _, fun y w1 w2 => ⟨by rw [hE2.2.1, hE1.2.1], ?_, by rw [hE2.2.2.2.2.1, hE1.2.2.2.2.1]⟩⟩
    have e := him y w1
    rw [hE2.2.2.1 y (fun w => by have := hl2 y w; omega), hE1.2.2.1 y (fun w => by
      rcases hl1 y w with w | w | w
      · omega
      · rw [w] at w1; exact k2 w1
      · omega)]
theorem w_numbers {G : ab_G} {S : ab_S} {u : Nat} {im : Nat → Prop} {c bh nb st st2 n s t : Nat} {b : Nat → Int32} {f : Nat → sT} {tp : Nat → Nat} (h : kBd S im (mA S) c b bh nb st st2 u) (hQ : sQ S im n s f t tp) (hu : u + 128 < 2 ^ 20) (e g k : Int32) : two G S u 7 M_s_numbers [.ref 50, .int e, .int g, .int k] 1 M_m_numbers [.ref 120, .int e, .int g, .int k] := by
  have ht := hQ.2.1
  have hTr := hQ.2.2.2.2.2.1
  refine (p_s_numbers h ht (by omega) e g k).mono (fun v w1 z => ?_)
  rcases z with ⟨z1, z⟩ | ⟨z1, z2, z⟩ | ⟨z1, z2, rfl, S1, rfl, hE, y1, y2, y3, hB, hd⟩
  · refine no_ask h hQ hu (by exact ⟨_, rfl⟩) (by omega) (by omega) z (fun S1 hm1 _ _ _ => (c_m_numbers hm1 e g k).mono (fun v' w2 y => ?_))
    obtain ⟨S2, rfl, -, y⟩ := y
    rcases y with ⟨y1, -⟩ | ⟨y1, -⟩ | ⟨-, rfl, rfl⟩
    · exact absurd y1 z1
    · exact absurd y1 z1
    · exact ⟨rfl, _, rfl, qt_m0⟩
  · refine no_ask h hQ hu (by exact ⟨_, rfl⟩) (by omega) (by omega) z (fun S1 hm1 _ _ _ => (c_m_numbers hm1 e g k).mono (fun v' w2 y => ?_))
    obtain ⟨S2, rfl, -, y⟩ := y
    rcases y with ⟨-, y1, -⟩ | ⟨-, -, rfl, rfl⟩ | ⟨y1, -⟩
    · exact absurd y1 z2
    · exact ⟨rfl, _, rfl, qt_m0⟩
    · exact absurd z1 y1
  · have hm1 : mSh S1 := hQ.1.eq hE
    refine ⟨S1, rfl, (by exact ⟨_, rfl⟩), hm1, hB.1.1, hB.1.2.1 0 (by decide), (c_m_numbers hm1 e g k).mono (fun v' w2 y => ?_)⟩
    obtain ⟨S2, rfl, hE2, y⟩ := y
    have hq := cN3 z1.1
    obtain ⟨m, hm, ekm, enm⟩ := in_get (n := 40) (by decide) z2
    rcases y with ⟨-, -, rfl, w1, w2, w3⟩ | ⟨-, w1, -⟩ | ⟨w1, -⟩
    · have nE : ∀ y, 116 < y ∨ y < 109 → y ∉ [109 + 2 * cN e, 110 + 2 * cN e] := fun y h1 w => by simp only [List.mem_cons, List.not_mem_nil, or_false] at w; omega
      have hE02 : sEq [120, 142, 143, 144] S1 S2 := (m0_S.mono (by decide)).tr (hE2.mono (by decide))
      have f2 : fEq S1 S2 := by
        have e120 := hE2.2.2.1 120 (by decide)
        refine ⟨?_, ?_, ?_⟩ <;> rw [e120] <;> exact gI_k (by decide)
      have ngm : ¬ g = -1 := fun w => by rw [w] at z1; exact absurd z1.2.1 (by decide)
      have i142 : sI S1 142 = sI S 142 := hE.2.2.1 142 (nE _ (by decide))
      have i143 : sI S1 143 = sI S 143 := hE.2.2.1 143 (nE _ (by decide))
      have j144 : sJ S1 144 = sJ S 144 := hE.2.2.2.1 144 (nE _ (by decide))
      have cl : ∀ y, y < 120 → sI S2 y = sI S1 y ∧ sJ S2 y = sJ S1 y := fun y hy => ⟨hE02.2.2.1 y (fun w => by simp only [List.mem_cons, List.not_mem_nil, or_false] at w; omega), hE02.2.2.2.1 y (fun w => by simp only [List.mem_cons, List.not_mem_nil, or_false] at w; omega)⟩
      refine ⟨rfl, S2, rfl, tray_two h hQ hu hE (fun y w => by simp only [List.mem_cons, List.not_mem_nil, or_false] at w; omega) hB (by omega) hd hE02 (fun y w => by simp only [List.mem_cons, List.not_mem_nil, or_false] at w; omega) f2 (fun q hq2 => ?_) (fun q hq2 => ?_)⟩
      · by_cases eq : q = cN e
        · rw [eq]
          refine Or.inr ⟨m, hm, ?_, ?_, ?_, ?_, fun i hi => ?_⟩
          · rw [(cl _ (by omega)).1, y2]; exact ekm
          · rw [w2, up1_s]; exact ekm
          · rw [(cl _ (by omega)).1, y1, w1, up1_s]
          · rw [w1, up1_s]; exact ngm
          · rw [(cl _ (by omega)).2, y3 i (by omega), w3]
            unfold mZer
            rw [if_pos ⟨by omega, by rw [enm]; omega⟩]
        · have s1 : sI S2 (109 + 2 * q) = sI S (109 + 2 * q) := (cl _ (by omega)).1.trans (hE.2.2.1 _ (fun w => by simp only [List.mem_cons, List.not_mem_nil, or_false] at w; omega))
          have s2 : sJ S2 (110 + 2 * q) = sJ S (110 + 2 * q) := (cl _ (by omega)).2.trans (hE.2.2.2.1 _ (fun w => by simp only [List.mem_cons, List.not_mem_nil, or_false] at w; omega))
          rcases hTr q hq2 with ⟨r1, r2⟩ | ⟨m', r1, r2, r3, r4, r5, r6⟩
          · exact Or.inl ⟨by rw [s1]; exact r1, by rw [w1, up1_o eq, i142]; exact r2⟩
          · refine Or.inr ⟨m', r1, by rw [s1]; exact r2, by rw [w2, up1_o eq, i143]; exact r3, by rw [s1, w1, up1_o eq, i142]; exact r4, by rw [w1, up1_o eq, i142]; exact r5, fun i hi => ?_⟩
            rw [s2, w3, j144]
            unfold mZer
            rw [if_neg (fun w => by rw [enm] at w; omega)]
            exact r6 i hi
      · by_cases eq : q = cN e
        · exact ⟨m, by rw [w2, eq, up1_s]; exact ekm, hm⟩
        · obtain ⟨m', r1, r2⟩ := hQ.2.2.2.2.2.2.1 q hq2
          exact ⟨m', by rw [w2, up1_o eq, i143]; exact r1, r2⟩
    · exact absurd z2 w1
    · exact absurd z1 w1
theorem w_write {G : ab_G} {S : ab_S} {u : Nat} {im : Nat → Prop} {c bh nb st st2 n s t : Nat} {b : Nat → Int32} {f : Nat → sT} {tp : Nat → Nat} (h : kBd S im (mA S) c b bh nb st st2 u) (hQ : sQ S im n s f t tp) (hu : u + 128 < 2 ^ 20) (e i : Int32) (x : Int64) : two G S u 7 M_s_write [.ref 50, .int e, .int i, .long x] 2 M_m_write [.ref 120, .int e, .int i, .long x] := by
  have ht := hQ.2.1
  have hTr := hQ.2.2.2.2.2.1
  refine (p_s_write h ht (by omega) (fun t ht4 => (hTr t ht4).sz) e i x).mono (fun v w1 z => ?_)
  have hno : ∀ (S1 : ab_S) (X : Int32), mSh S1 → sQ S1 im n s f t tp → mNt S1 e = X → ¬ X = 0 → ab_C G 2 M_m_write [.ref 120, .int e, .int i, .long x] (sw S1) (fun v' w2 => v' = some (.long X.toInt64) ∧ ∃ S2, w2 = sw S2 ∧ qt S1 S2) := fun S1 X hm1 hQ1 e1 e0 => (c_m_write hm1 hQ1.2.2.2.2.2.2.1 e i x).mono (fun v' w2 y => by
    obtain ⟨S2, rfl, -, y⟩ := y
    rcases y with ⟨y1, -⟩ | ⟨y1, -⟩ | ⟨-, rfl, rfl⟩
    · exact absurd (e1.symm.trans y1) e0
    · exact absurd (e1.symm.trans y1) e0
    · exact ⟨by rw [e1], _, rfl, qt_m0⟩)
  rcases z with ⟨z1, z⟩ | ⟨z1, z2, z⟩ | ⟨z1, m, hm, z2, ⟨z3, z⟩ | ⟨z3, rfl, S1, rfl, hE, y1, hB, hd⟩⟩
  · exact no_ask h hQ hu (by exact ⟨_, rfl⟩) (by omega) (by omega) z (fun S1 hm1 _ hQ1 _ => hno S1 (-2) hm1 hQ1 (if_neg z1) (by decide))
  · exact no_ask h hQ hu (by exact ⟨_, rfl⟩) (by omega) (by omega) z (fun S1 hm1 _ hQ1 hk => hno S1 (-6) hm1 hQ1 ((congrFun (mNt_cg hk).1 e).trans ((if_pos z1).trans (if_pos ((hTr _ (cN3 z1)).cs.1 z2)))) (by decide))
  · obtain ⟨d1, d2, d3⟩ := (hTr _ (cN3 z1)).cs.2 m hm z2
    refine no_ask h hQ hu (by exact ⟨_, rfl⟩) (by omega) (by omega) z (fun S1 hm1 _ hQ1 hk => (c_m_write hm1 hQ1.2.2.2.2.2.2.1 e i x).mono (fun v' w2 y => ?_))
    obtain ⟨S2, rfl, -, y⟩ := y
    have e0 : mNt S1 e = 0 := (congrFun (mNt_cg hk).1 e).trans ((if_pos z1).trans (if_neg d1))
    have ec : cN (sI S1 143 (cN e)) = m := by rw [(hk 143 (by decide) (by decide)).1]; exact d2
    rcases y with ⟨-, y1, -⟩ | ⟨-, -, rfl, rfl⟩ | ⟨y1, -⟩
    · rw [ec] at y1; exact absurd y1 z3
    · exact ⟨rfl, _, rfl, qt_m0⟩
    · exact absurd e0 y1
  · obtain ⟨d1, d2, d3⟩ := (hTr _ (cN3 z1)).cs.2 m hm z2
    have hq := cN3 z1
    have nE : ∀ y, y ≠ 110 + 2 * cN e → y ∉ [110 + 2 * cN e] := fun y h1 w => h1 (List.mem_singleton.mp w)
    have c1 : ∀ y, y ≠ 110 + 2 * cN e → sI S1 y = sI S y ∧ sJ S1 y = sJ S y := fun y hy => ⟨hE.2.2.1 y (nE y hy), hE.2.2.2.1 y (nE y hy)⟩
    have hk : ∀ y, 120 ≤ y → y ≤ 144 → sI S1 y = sI S y ∧ sJ S1 y = sJ S y := fun y h1 h2 => c1 y (by omega)
    have hm1 : mSh S1 := hQ.1.eq hE
    have hr1 : mTr S1 := hQ.2.2.2.2.2.2.1.cg (hk 143 (by decide) (by decide)).1
    have e0 : mNt S1 e = 0 := (congrFun (mNt_cg hk).1 e).trans ((if_pos z1).trans (if_neg d1))
    have ec : cN (sI S1 143 (cN e)) = m := by rw [(hk 143 (by decide) (by decide)).1]; exact d2
    have es : sI S (109 + 2 * cN e) 1 = sI S 142 (cN e) := by
      rcases hTr _ hq with ⟨r1, -⟩ | ⟨m', -, -, -, r4, -⟩
      · exact absurd (z2.symm.trans r1) (nI_m1 (by omega))
      · exact r4
    refine ⟨S1, rfl, (by exact ⟨_, rfl⟩), hm1, hB.1.1, hB.1.2.1 0 (by decide), (c_m_write hm1 hr1 e i x).mono (fun v' w2 y => ?_)⟩
    obtain ⟨S2, rfl, hE2, y⟩ := y
    rcases y with ⟨-, -, rfl, w3⟩ | ⟨-, w1, -⟩ | ⟨w1, -⟩
    · have hE02 : sEq [120, 144] S1 S2 := (m0_S.mono (by decide)).tr (hE2.mono (by decide))
      have f2 : fEq S1 S2 := by
        have e120 := hE2.2.2.1 120 (by decide)
        refine ⟨?_, ?_, ?_⟩ <;> rw [e120] <;> exact gI_k (by decide)
      have cl : ∀ y, y ≠ 120 → y ≠ 144 → sI S2 y = sI S1 y ∧ sJ S2 y = sJ S1 y := fun y h1 h2 => ⟨hE02.2.2.1 y (fun w => by simp only [List.mem_cons, List.not_mem_nil, or_false] at w; omega), hE02.2.2.2.1 y (fun w => by simp only [List.mem_cons, List.not_mem_nil, or_false] at w; omega)⟩
      have i142 : sI S2 142 = sI S 142 := (cl 142 (by decide) (by decide)).1.trans (c1 142 (by omega)).1
      have i143 : sI S2 143 = sI S 143 := (cl 143 (by decide) (by decide)).1.trans (c1 143 (by omega)).1
      have eS : sI S1 142 (cN e) = sI S (109 + 2 * cN e) 1 := by rw [(c1 142 (by omega)).1, es]
      refine ⟨by rw [eS], S2, rfl, tray_two h hQ hu hE (fun y w => by simp only [List.mem_cons, List.not_mem_nil, or_false] at w; omega) hB (by omega) hd hE02 (fun y w => by simp only [List.mem_cons, List.not_mem_nil, or_false] at w; omega) f2 (fun q hq2 => ?_) (hQ.2.2.2.2.2.2.1.cg i143)⟩
      have s1 : sI S2 (109 + 2 * q) = sI S (109 + 2 * q) := (cl _ (by omega) (by omega)).1.trans (c1 _ (by omega)).1
      have s2 : sJ S2 (110 + 2 * q) = sJ S1 (110 + 2 * q) := (cl _ (by omega) (by omega)).2
      rcases hTr q hq2 with ⟨r1, r2⟩ | ⟨m', r1, r2, r3, r4, r5, r6⟩
      · exact Or.inl ⟨by rw [s1]; exact r1, by rw [i142]; exact r2⟩
      · refine Or.inr ⟨m', r1, by rw [s1]; exact r2, by rw [i143]; exact r3, by rw [s1, i142]; exact r4, by rw [i142]; exact r5, fun k hk2 => ?_⟩
        rw [s2, w3, (c1 144 (by omega)).2]
        by_cases eq : q = cN e
        · rw [eq]
          rw [y1]
          have em : m' = m := (nI_eq (by omega) (by omega)).mp ((eq ▸ r2).symm.trans z2)
          by_cases ek : k = cN i
          · rw [ek, up1_s, up1_s, eS]
          · rw [up1_o ek, up1_o (by omega)]
            have z := r6 k hk2
            rw [eq] at z
            exact z
        · rw [(c1 _ (by omega)).2, up1_o (by omega)]
          exact r6 k hk2
    · exact absurd (by rw [ec]; exact z3) w1
    · exact absurd e0 w1
theorem w_lists {G : ab_G} {S : ab_S} {u : Nat} {im : Nat → Prop} {c bh nb st st2 n s t : Nat} {b : Nat → Int32} {f : Nat → sT} {tp : Nat → Nat} (h : kBd S im (mA S) c b bh nb st st2 u) (hQ : sQ S im n s f t tp) (hu : u + 128 < 2 ^ 20) (e p : Int32) : two G S u 7 M_s_lists [.ref 50, .int e, .int p] 6 M_m_lists [.ref 120, .int e, .int p] := by
  have ht := hQ.2.1
  have ha := h.2.2.2.2.1
  have hTr := hQ.2.2.2.2.2.1
  have hQT : ∀ S1 S2 : ab_S, sEq (144 :: qL) S1 S2 → mA S2 = mA S1 → fEq S1 S2 → sJ S2 144 = sJ S1 144 → qt S1 S2 := fun S1 S2 hE hA hF hJ => by
    have hi : ∀ y, y ∈ (144 :: qL) → y = 144 ∨ y = 120 ∨ (124 ≤ y ∧ y ≤ 141) := fun y hy => by
      rcases List.mem_cons.mp hy with w | w
      · exact Or.inl w
      · exact Or.inr (qL_in y w)
    exact ⟨_, hE, fun y hy => by have := hi y hy; omega, hA, hE.2.2.1 142 (fun w => by have := hi _ w; omega), hE.2.2.1 143 (fun w => by have := hi _ w; omega), hJ, hF⟩
  refine (p_s_lists h ht (by omega) (fun t ht4 => (hTr t ht4).sz) e p).mono (fun v w1 z => ?_)
  rcases z with ⟨z1, z⟩ | ⟨z1, z2, z⟩ | ⟨z1, m, hm, z2, rfl, S1, st', rfl, hE, y1, hB, hd⟩
  · refine no_ask h hQ hu (by exact ⟨_, rfl⟩) (by omega) (by omega) z (fun S1 hm1 hA1 hQ1 hk => (c_m_lists hm1 hA1 ha.1 hQ1.2.2.2.2.2.2.1 e p).mono (fun v' w2 y => ?_))
    obtain ⟨S2, rfl, x1, x2, x3, x4, y⟩ := y
    rcases y with ⟨-, rfl, y2⟩ | ⟨y1, -⟩ | ⟨y1, -⟩
    · exact ⟨rfl, _, rfl, hQT S1 S2 x3 (x2.trans hA1.symm) x4 y2⟩
    · exact absurd y1 z1
    · exact absurd y1 z1
  · refine no_ask h hQ hu (by exact ⟨_, rfl⟩) (by omega) (by omega) z (fun S1 hm1 hA1 hQ1 hk => (c_m_lists hm1 hA1 ha.1 hQ1.2.2.2.2.2.2.1 e p).mono (fun v' w2 y => ?_))
    have e6 : mNt S1 e = -6 := (congrFun (mNt_cg hk).1 e).trans ((if_pos z1.1).trans (if_pos ((hTr _ (cN3 z1.1)).cs.1 z2)))
    obtain ⟨S2, rfl, x1, x2, x3, x4, y⟩ := y
    rcases y with ⟨y1, -⟩ | ⟨-, -, rfl, y2⟩ | ⟨-, y1, -⟩
    · exact absurd z1 y1
    · exact ⟨by rw [e6], _, rfl, hQT S1 S2 x3 (x2.trans hA1.symm) x4 y2⟩
    · rw [e6] at y1; exact absurd y1 (by decide)
  · obtain ⟨d1, d2, d3⟩ := (hTr _ (cN3 z1.1)).cs.2 m hm z2
    have hq := cN3 z1.1
    obtain ⟨k1, k2⟩ := h.bh
    have nE : ∀ y, (y < 84 ∨ (108 < y ∧ y ≤ 118) ∨ (120 ≤ y ∧ y ≤ 144)) → y ≠ 110 + 2 * cN e → y ∉ [84, 89, 91, 92, 93, bh, 104, 105, 106, 110 + 2 * cN e] := fun y h1 h2 w => by simp only [List.mem_cons, List.not_mem_nil, or_false] at w; omega
    have hk : ∀ y, 120 ≤ y → y ≤ 144 → sI S1 y = sI S y ∧ sJ S1 y = sJ S y := fun y h1 h2 => ⟨hE.2.2.1 y (nE y (by omega) (by omega)), hE.2.2.2.1 y (nE y (by omega) (by omega))⟩
    have hm1 : mSh S1 := hQ.1.eq hE
    have hA1 : mA S1 = mA S := (hk 121 (by decide) (by decide)).1
    have hr1 : mTr S1 := hQ.2.2.2.2.2.2.1.cg (hk 143 (by decide) (by decide)).1
    have e0 : mNt S1 e = 0 := (congrFun (mNt_cg hk).1 e).trans ((if_pos z1.1).trans (if_neg d1))
    have ec : mTc S1 (cN e) = m := (congrFun (mNt_cg hk).2.1 (cN e)).trans d2
    refine ⟨S1, rfl, (by exact ⟨_, rfl⟩), hm1, hB.1.1, hB.1.2.1 0 (by decide), (c_m_lists hm1 hA1 ha.1 hr1 e p).mono (fun v' w2 y => ?_)⟩
    obtain ⟨S2, rfl, x1, x2, x3, x4, y⟩ := y
    have hi : ∀ y, y ∈ (144 :: qL) → y = 144 ∨ y = 120 ∨ (124 ≤ y ∧ y ≤ 141) := fun y hy => by
      rcases List.mem_cons.mp hy with w | w
      · exact Or.inl w
      · exact Or.inr (qL_in y w)
    rcases y with ⟨y2, -⟩ | ⟨-, y2, -⟩ | ⟨-, -, rfl, y2⟩
    · exact absurd z1 y2
    · exact absurd e0 y2
    · rw [ec] at y2 ⊢
      have cl : ∀ y, y < 120 ∨ y = 142 ∨ y = 143 → sI S2 y = sI S1 y ∧ sJ S2 y = sJ S1 y := fun y h1 => ⟨x3.2.2.1 y (fun w => by have := hi y w; omega), x3.2.2.2.1 y (fun w => by have := hi y w; omega)⟩
      have i142 : sI S2 142 = sI S 142 := (cl 142 (by omega)).1.trans (hk 142 (by decide) (by decide)).1
      have i143 : sI S2 143 = sI S 143 := (cl 143 (by omega)).1.trans (hk 143 (by decide) (by decide)).1
      refine ⟨rfl, S2, rfl, tray_two h hQ hu hE (fun y w => by simp only [List.mem_cons, List.not_mem_nil, or_false] at w; omega) hB (by omega) hd x3 (fun y hy => by have := hi y hy; omega) x4 (fun q hq2 => ?_) (hQ.2.2.2.2.2.2.1.cg i143)⟩
      have s1 : sI S2 (109 + 2 * q) = sI S (109 + 2 * q) := (cl _ (by omega)).1.trans (hE.2.2.1 _ (nE _ (by omega) (by omega)))
      have s2 : sJ S2 (110 + 2 * q) = sJ S1 (110 + 2 * q) := (cl _ (by omega)).2
      rcases hTr q hq2 with ⟨r1, r2⟩ | ⟨m', r1, r2, r3, r4, r5, r6⟩
      · exact Or.inl ⟨by rw [s1]; exact r1, by rw [i142]; exact r2⟩
      · refine Or.inr ⟨m', r1, by rw [s1]; exact r2, by rw [i143]; exact r3, by rw [s1, i142]; exact r4, by rw [i142]; exact r5, fun k hk2 => ?_⟩
        rw [s2, y2, (hk 144 (by decide) (by decide)).2]
        unfold mLis
        by_cases eq : q = cN e
        · rw [eq]
          have em : m' = m := (nI_eq (by omega) (by omega)).mp ((eq ▸ r2).symm.trans z2)
          rw [y1 k, if_pos (by omega), if_pos ⟨by omega, by omega⟩, show 40 * cN e + k - 40 * cN e + 1 = k + 1 by omega]
        · rw [hE.2.2.2.1 _ (nE _ (by omega) (by omega)), if_neg (fun w => by omega)]
          exact r6 k hk2
