/-! ===== both asked: the rest ===== -/
theorem m_E (S : ab_S) : mEn S (mR S) = aE (mA S) := mEn_cg (S := rwS (mA S)) (S' := S) rfl _
theorem aTl_c4 {f g : Nat → Int64} : ∀ m k a, (∀ i, k ≤ i → i < k + m → f i = g i) → aTl f m k a = aTl g m k a
  | 0, k, a, _ => rfl
  | m + 1, k, a, h => by
    show (if aWy a (f k) = 0 then aTl f m (k + 1) (aDo a (jW (f k))) else (k, aWy a (f k), a)) = (if aWy a (g k) = 0 then aTl g m (k + 1) (aDo a (jW (g k))) else (k, aWy a (g k), a))
    rw [h k (Nat.le_refl _) (by omega), aTl_c4 m (k + 1) _ (fun i h1 h2 => h i (by omega) (by omega))]
theorem trM.cs {S : ab_S} {q : Nat} (h : trM S q) : (sI S (109 + 2 * q) 2 = -1 → sI S 142 q = -1) ∧ ∀ m, m ≤ 40 → sI S (109 + 2 * q) 2 = nI m → ¬ sI S 142 q = -1 ∧ mTc S q = m ∧ ∀ i, i < m → sJ S (110 + 2 * q) i = mTf S q i := by
  rcases h with ⟨h1, h2⟩ | ⟨m, h1, h2, h3, h4, h5, h6⟩
  · exact ⟨fun _ => h2, fun m hm e => absurd (h1.symm.trans e).symm (nI_m1 (by omega))⟩
  · refine ⟨fun e => absurd (h2.symm.trans e) (nI_m1 (by omega)), fun m' hm e => ?_⟩
    have em : m' = m := (nI_eq (by omega) (by omega)).mp (e.symm.trans h2)
    rw [em]
    exact ⟨h5, by show cN (sI S 143 q) = m; rw [h3, cN_nI (by omega)], h6⟩
theorem trM.sz {S : ab_S} {q : Nat} (h : trM S q) : sI S (109 + 2 * q) 2 = -1 ∨ ∃ m, m ≤ 40 ∧ sI S (109 + 2 * q) 2 = nI m := by
  rcases h with ⟨h1, h2⟩ | ⟨m, h1, h2, h3, h4, h5, h6⟩
  · exact Or.inl h1
  · exact Or.inr ⟨m, h1, h2⟩
theorem cN3 {e : Int32} (h : 0 ≤ e ∧ e ≤ 3) : cN e < 4 := by
  obtain ⟨q, hq, -, e2⟩ := in_get (n := 3) (by decide) h
  omega
theorem mNt_cg {S S1 : ab_S} (hk : ∀ y, 120 ≤ y → y ≤ 144 → sI S1 y = sI S y ∧ sJ S1 y = sJ S y) : mNt S1 = mNt S ∧ mTc S1 = mTc S ∧ mTf S1 = mTf S := by
  refine ⟨?_, ?_, ?_⟩
  · funext t
    unfold mNt
    rw [(hk 142 (by decide) (by decide)).1]
  · funext q
    show cN (sI S1 143 q) = cN (sI S 143 q)
    rw [(hk 143 (by decide) (by decide)).1]
  · funext q k
    show sJ S1 144 _ = sJ S 144 _
    rw [(hk 144 (by decide) (by decide)).2]
theorem aNf_cg {S S1 : ab_S} (hk : ∀ y, 120 ≤ y → y ≤ 144 → sI S1 y = sI S y ∧ sJ S1 y = sJ S y) (R : Nat) (t r : Int32) : aNf S1 R t r = aNf S R t r := by
  obtain ⟨e1, e2, e3⟩ := mNt_cg hk
  have f2 : ∀ q, mTc S1 q = mTc S q := fun q => congrFun e2 q
  have f3 : ∀ q, mTf S1 q = mTf S q := fun q => congrFun e3 q
  unfold aNf
  rw [e1, f2, f3]
theorem nf_eq {S : ab_S} (hT : ∀ q, q < 4 → trM S q) (R : Nat) (t r : Int32) : cNf S R t r = aNf S R t r := by
  unfold cNf aNf
  by_cases h1 : (0 ≤ t ∧ t ≤ 3) ∧ (0 ≤ r ∧ cN r < R)
  · rw [if_pos h1, if_pos h1]
    have hq := cN3 h1.1
    obtain ⟨c1, c2⟩ := (hT (cN t) hq).cs
    have eN : mNt S t = if sI S 142 (cN t) = -1 then -6 else 0 := if_pos h1.1
    rcases (hT (cN t) hq).sz with hm | ⟨m, hm40, hm⟩
    · rw [if_pos hm, eN, if_pos (c1 hm), if_neg (by decide)]
    · obtain ⟨d1, d2, d3⟩ := c2 m hm40 hm
      rw [if_neg (by rw [hm]; exact nI_m1 (by omega)), hm, cN_nI (by omega), eN, if_neg d1, if_pos rfl, d2]
      by_cases h2 : 1 ≤ m ∧ m ≤ 10
      · rw [if_pos h2, if_pos h2]
        by_cases h3 : ∀ i, i < m → 0 ≤ sJ S (110 + 2 * cN t) i ∧ sJ S (110 + 2 * cN t) i ≤ 4
        · rw [if_pos h3, if_pos (fun i hi => by rw [← d3 i hi]; exact h3 i hi)]
        · rw [if_neg h3, if_neg (fun z => h3 (fun i hi => by rw [d3 i hi]; exact z i hi))]
      · rw [if_neg h2, if_neg h2]
  · rw [if_neg h1, if_neg h1]
theorem aFl_c4 {a : Nat → Int32} {f g : Nat → Int64} {m : Nat} {mo : Int32} {r : Nat} (h : ∀ i, i < m → f i = g i) : aFl a f m mo r ↔ aFl a g m mo r := ⟨fun z i hi => (z i hi).trans (h i hi), fun z i hi => (z i hi).trans (h i hi).symm⟩
theorem mQ_c4 {p q : Nat → Bool} (h : ∀ k, p k = q k) : ∀ k, mQ p k = mQ q k := by
  have e : p = q := funext h
  intro k
  rw [e]
theorem aSo_c4 {a : Nat → Int32} {f g : Nat → Int64} {m r : Nat} (h : ∀ i, i < m → f i = g i) : aSo a f m r = aSo a g m r := mQ_c4 (fun k => decide_eq_decide.mpr (aFl_c4 h)) 4
theorem aMs_c4 {a : Nat → Int32} {f g : Nat → Int64} {m r : Nat} (h : ∀ i, i < m → f i = g i) : aMs a f m r = aMs a g m r := mQ_c4 (fun k => decide_eq_decide.mpr (aFl_c4 h)) 10
/-- the tray that was felt is the reference's -/
theorem felt_c {S : ab_S} (hT : ∀ q, q < 4 → trM S q) {R : Nat} {t r : Int32} (h : aNf S R t r = 0) : cN (sI S (109 + 2 * cN t) 2) = mTc S (cN t) ∧ ∀ i, i < mTc S (cN t) → sJ S (110 + 2 * cN t) i = mTf S (cN t) i := by
  have h0 := aNf_0 h
  have hq := cN3 h0.1.1
  have eN : mNt S t = if sI S 142 (cN t) = -1 then -6 else 0 := if_pos h0.1.1
  have hn := h0.2.1
  rcases (hT (cN t) hq).sz with hm | ⟨m, hm40, hm⟩
  · rw [eN, if_pos ((hT (cN t) hq).cs.1 hm)] at hn
    exact absurd hn (by decide)
  · obtain ⟨d1, d2, d3⟩ := (hT (cN t) hq).cs.2 m hm40 hm
    rw [hm, cN_nI (by omega), d2]
    exact ⟨rfl, d3⟩
theorem w_why {G : ab_G} {S : ab_S} {u : Nat} {im : Nat → Prop} {c bh nb st st2 n s t : Nat} {b : Nat → Int32} {f : Nat → sT} {tp : Nat → Nat} (h : kBd S im (mA S) c b bh nb st st2 u) (hQ : sQ S im n s f t tp) (hu : u + 128 < 2 ^ 20) (d : Int32) : two G S u 7 M_s_why [.ref 50, .int d] 5 M_m_why [.ref 120, .int d] := by
  have ha := h.2.2.2.2.1
  have ht := hQ.2.1
  refine ask h hQ (fun x hx => by first | (rw [show x = _ from hx]; exact ⟨_, rfl⟩) | (obtain ⟨v0, rfl, -⟩ := hx; exact ⟨_, rfl⟩)) (P := fun x => x = .int (if d < 0 then 1 else nI (aY (mA S) ((mA S) 40) (aE (mA S)) (cN d)))) (P' := fun x => x = .int (if d < 0 then 1 else nI (aY (mA S) ((mA S) 40) (aE (mA S)) (cN d)))) (m := 0) (z := 0) ((p_s_why h ht (by omega) d).mono (fun v w' z => ⟨_, z, rfl⟩)) (fun S1 hm1 hA1 hQ1 hk1 => ?_) (fun x y h1 h2 => h2.trans h1.symm) (by omega) (by omega)
  have ha1 : aOk (mA S1) := by rw [hA1]; exact ha.1
  refine (c_m_why hm1 ha1.v ha1.l ha1.2.2 d).mono (fun v w' z => ?_)
  obtain ⟨S', rfl, hE, rfl⟩ := z
  obtain ⟨x1, x2, x3, x4⟩ := m0_D hm1 hE (fun y hy => by simp only [List.mem_cons, List.not_mem_nil, or_false] at hy; omega)
  exact ⟨_, ⟨rfl, S', rfl, x1, x2, x3, x4⟩, by rw [← hA1]; first | rfl | (rw [m_E (m0 S1)]; rfl)⟩
theorem w_by {G : ab_G} {S : ab_S} {u : Nat} {im : Nat → Prop} {c bh nb st st2 n s t : Nat} {b : Nat → Int32} {f : Nat → sT} {tp : Nat → Nat} (h : kBd S im (mA S) c b bh nb st st2 u) (hQ : sQ S im n s f t tp) (hu : u + 128 < 2 ^ 20) (d : Int32) (p : Int32) : two G S u 7 M_s_by [.ref 50, .int d, .int p] 5 M_m_by [.ref 120, .int d, .int p] := by
  have ha := h.2.2.2.2.1
  have ht := hQ.2.1
  refine ask h hQ (fun x hx => by first | (rw [show x = _ from hx]; exact ⟨_, rfl⟩) | (obtain ⟨v0, rfl, -⟩ := hx; exact ⟨_, rfl⟩)) (P := fun x => x = .int (if 0 ≤ p ∧ cN p < aR (mA S) then (if d < 0 ∨ aY (mA S) ((mA S) 40) (aE (mA S)) (cN d) ≠ 0 then -5 else nI (mWa (aS (mA S) ((mA S) 40) (aE (mA S)) (cN d)) (cN p))) else -2)) (P' := fun x => x = .int (if 0 ≤ p ∧ cN p < aR (mA S) then (if d < 0 ∨ aY (mA S) ((mA S) 40) (aE (mA S)) (cN d) ≠ 0 then -5 else nI (mWa (aS (mA S) ((mA S) 40) (aE (mA S)) (cN d)) (cN p))) else -2)) (m := 0) (z := 0) ((p_s_by h ht (by omega) d p).mono (fun v w' z => ⟨_, z, rfl⟩)) (fun S1 hm1 hA1 hQ1 hk1 => ?_) (fun x y h1 h2 => h2.trans h1.symm) (by omega) (by omega)
  have ha1 : aOk (mA S1) := by rw [hA1]; exact ha.1
  refine (c_m_by hm1 ha1.v ha1.l ha1.2.2 d p).mono (fun v w' z => ?_)
  obtain ⟨S', rfl, hE, rfl⟩ := z
  obtain ⟨x1, x2, x3, x4⟩ := m0_D hm1 hE (fun y hy => by simp only [List.mem_cons, List.not_mem_nil, or_false] at hy; omega)
  exact ⟨_, ⟨rfl, S', rfl, x1, x2, x3, x4⟩, by rw [← hA1]; first | rfl | (rw [m_E (m0 S1)]; rfl)⟩
theorem w_rider {G : ab_G} {S : ab_S} {u : Nat} {im : Nat → Prop} {c bh nb st st2 n s t : Nat} {b : Nat → Int32} {f : Nat → sT} {tp : Nat → Nat} (h : kBd S im (mA S) c b bh nb st st2 u) (hQ : sQ S im n s f t tp) (hu : u + 128 < 2 ^ 20) (p : Int32) (x0 : Int32) : two G S u 7 M_s_rider [.ref 50, .int p, .int x0] 2 M_m_rider [.ref 120, .int p, .int x0] := by
  have ha := h.2.2.2.2.1
  have ht := hQ.2.1
  refine ask h hQ (fun x hx => by first | (rw [show x = _ from hx]; exact ⟨_, rfl⟩) | (obtain ⟨v0, rfl, -⟩ := hx; exact ⟨_, rfl⟩)) (P := fun x => x = .int (mRd (mA S) (aR (mA S)) p x0)) (P' := fun x => x = .int (mRd (mA S) (aR (mA S)) p x0)) (m := 0) (z := 0) ((p_s_rider h ht (by omega) p x0).mono (fun v w' z => ⟨_, z, rfl⟩)) (fun S1 hm1 hA1 hQ1 hk1 => ?_) (fun x y h1 h2 => h2.trans h1.symm) (by omega) (by omega)
  have ha1 : aOk (mA S1) := by rw [hA1]; exact ha.1
  refine (c_m_rider hm1 ha1.v ha1.l ha1.2.2 p x0).mono (fun v w' z => ?_)
  obtain ⟨rfl, rfl⟩ := z
  obtain ⟨x1, x2, x3, x4⟩ := m0_D (l := []) hm1 sEq.rf (fun y hy => by cases hy)
  exact ⟨_, ⟨rfl, _, rfl, x1, x2, x3, x4⟩, by rw [← hA1]; first | rfl | (rw [m_E (m0 S1)]; rfl)⟩
theorem w_seat {G : ab_G} {S : ab_S} {u : Nat} {im : Nat → Prop} {c bh nb st st2 n s t : Nat} {b : Nat → Int32} {f : Nat → sT} {tp : Nat → Nat} (h : kBd S im (mA S) c b bh nb st st2 u) (hQ : sQ S im n s f t tp) (hu : u + 128 < 2 ^ 20) (p : Int32) : two G S u 7 M_s_seat [.ref 50, .int p] 2 M_m_seat [.ref 120, .int p] := by
  have ha := h.2.2.2.2.1
  have ht := hQ.2.1
  refine ask h hQ (fun x hx => by first | (rw [show x = _ from hx]; exact ⟨_, rfl⟩) | (obtain ⟨v0, rfl, -⟩ := hx; exact ⟨_, rfl⟩)) (P := fun x => x = .int (if 0 ≤ p ∧ cN p < aR (mA S) then nI (qRi (aQ (mA S)) (cN p)) else -2)) (P' := fun x => x = .int (if 0 ≤ p ∧ cN p < aR (mA S) then nI (mSit (aR (mA S)) (aE (mA S)) (cN p)) else -2)) (m := 0) (z := 0) ((p_s_seat h ht (by omega) p).mono (fun v w' z => ⟨_, z, rfl⟩)) (fun S1 hm1 hA1 hQ1 hk1 => ?_) (fun x y h1 h2 => by
    obtain ⟨k1, k2, k3⟩ := rowT_in ha.1
    have h6 : aW (mA S) < 625 := by have := p5_6 ha.1.R.2; omega
    rw [h1, h2]
    by_cases z : 0 ≤ p ∧ cN p < aR (mA S)
    · rw [if_pos z, if_pos z, k3, cSt_sit ha.1.R.2 k1 h6 z.2]
    · rw [if_neg z, if_neg z]) (by omega) (by omega)
  have ha1 : aOk (mA S1) := by rw [hA1]; exact ha.1
  refine (c_m_seat hm1 ha1.v ha1.l ha1.2.2 p).mono (fun v w' z => ?_)
  obtain ⟨rfl, rfl⟩ := z
  obtain ⟨x1, x2, x3, x4⟩ := m0_D (l := []) hm1 sEq.rf (fun y hy => by cases hy)
  exact ⟨_, ⟨rfl, _, rfl, x1, x2, x3, x4⟩, by rw [← hA1]; first | rfl | (rw [m_E (m0 S1)]; rfl)⟩
theorem w_count {G : ab_G} {S : ab_S} {u : Nat} {im : Nat → Prop} {c bh nb st st2 n s t : Nat} {b : Nat → Int32} {f : Nat → sT} {tp : Nat → Nat} (h : kBd S im (mA S) c b bh nb st st2 u) (hQ : sQ S im n s f t tp) (hu : u + 128 < 2 ^ 20) (x0 : Int32) : two G S u 7 M_s_count [.ref 50, .int x0] 3 M_m_count [.ref 120, .int x0] := by
  have ha := h.2.2.2.2.1
  have ht := hQ.2.1
  refine ask h hQ (fun x hx => by first | (rw [show x = _ from hx]; exact ⟨_, rfl⟩) | (obtain ⟨v0, rfl, -⟩ := hx; exact ⟨_, rfl⟩)) (P := fun x => x = .int (cCt (mA S) s t x0)) (P' := fun x => x = .int (cCt (mA S) s t x0)) (m := 0) (z := 0) ((p_s_count h ht (by omega) hQ.2.2.1.1 hQ.2.2.2.1.2.1 x0).mono (fun v w' z => ⟨_, z, rfl⟩)) (fun S1 hm1 hA1 hQ1 hk1 => ?_) (fun x y h1 h2 => h2.trans h1.symm) (by omega) (by omega)
  have ha1 : aOk (mA S1) := by rw [hA1]; exact ha.1
  refine (c_m_count hm1 ha1.v ha1.2.2 x0).mono (fun v w' z => ?_)
  obtain ⟨rfl, rfl⟩ := z
  obtain ⟨x1, x2, x3, x4⟩ := m0_D (l := []) hm1 sEq.rf (fun y hy => by cases hy)
  refine ⟨_, ⟨rfl, _, rfl, x1, x2, x3, x4⟩, ?_⟩
  have e42 : mA S1 42 = nI s := hQ1.2.2.1.2.1
  have e5 : sI (m0 S1) 120 5 = nI t := (gI_k (by decide)).trans hQ1.2.2.2.1.2.2.1
  rw [← hA1]
  unfold mCt cCt
  rw [m_E (m0 S1), show mA (m0 S1) 42 = mA S1 42 from rfl, e42, e5]
  rfl
theorem w_fault {G : ab_G} {S : ab_S} {u : Nat} {im : Nat → Prop} {c bh nb st st2 n s t : Nat} {b : Nat → Int32} {f : Nat → sT} {tp : Nat → Nat} (h : kBd S im (mA S) c b bh nb st st2 u) (hQ : sQ S im n s f t tp) (hu : u + 128 < 2 ^ 20) (e : Int32) : two G S u 0 M_s_fault [.ref 50, .int e] 0 M_m_fault [.ref 120, .int e] := by
  have ha := h.2.2.2.2.1
  have ht := hQ.2.1
  refine ask h hQ (fun x hx => by first | (rw [show x = _ from hx]; exact ⟨_, rfl⟩) | (obtain ⟨v0, rfl, -⟩ := hx; exact ⟨_, rfl⟩)) (m := 0) (z := 0) (P := fun x => x = .int (if e = 0 then sI S 72 6 else if e = 1 then sI S 72 7 else -1)) (P' := fun x => x = .int (if e = 0 then sI S 72 6 else if e = 1 then sI S 72 7 else -1)) ((p_s_fault h.1 e).mono (fun v w' z => ⟨_, ⟨z.1, S, b, st, st2, z.2, fAs.rf, gA.rf, h.up (by omega), ht⟩, rfl⟩)) (fun S1 hm1 hA1 hQ1 hk1 => ?_) (fun x y h1 h2 => h2.trans h1.symm) (by omega) (by omega)
  refine (c_m_fault hm1 e).mono (fun v w' z => ?_)
  obtain ⟨rfl, rfl⟩ := z
  obtain ⟨x1, x2, x3, x4⟩ := m0_D (l := []) hm1 sEq.rf (fun y hy => by cases hy)
  refine ⟨_, ⟨rfl, _, rfl, x1, x2, x3, x4⟩, ?_⟩
  have e120 := (hk1 120 (by decide) (by decide)).1
  have f := hQ.2.2.2.2.1
  unfold mFt
  rw [e120, f.1, f.2.1]
theorem w_judge {G : ab_G} {S : ab_S} {u : Nat} {im : Nat → Prop} {c bh nb st st2 n s t : Nat} {b : Nat → Int32} {f : Nat → sT} {tp : Nat → Nat} (h : kBd S im (mA S) c b bh nb st st2 u) (hQ : sQ S im n s f t tp) (hu : u + 128 < 2 ^ 20) (e : Int32) (x0 : Int32) : two G S u 7 M_s_judge [.ref 50, .int e, .int x0] 8 M_m_judge [.ref 120, .int e, .int x0] := by
  have ha := h.2.2.2.2.1
  have ht := hQ.2.1
  refine ask h hQ (fun x hx => by first | (rw [show x = _ from hx]; exact ⟨_, rfl⟩) | (obtain ⟨v0, rfl, -⟩ := hx; exact ⟨_, rfl⟩)) (P := fun x => x = .int (if 0 ≤ x0 ∧ x0 ≤ 3 then (if mNt S e = 0 then aJu (mA S) (mTf S (cN e)) (mTc S (cN e)) x0 else mNt S e) else -2)) (P' := fun x => x = .int (if 0 ≤ x0 ∧ x0 ≤ 3 then (if mNt S e = 0 then aJu (mA S) (mTf S (cN e)) (mTc S (cN e)) x0 else mNt S e) else -2)) (m := 0) (z := 0) ((p_s_judge h ht (by omega) (fun t ht4 => (hQ.2.2.2.2.2.1 t ht4).sz) e x0).mono (fun v w' z => by
      have hT := hQ.2.2.2.2.2.1
      rcases z with ⟨z1, z2⟩ | ⟨z1, z2, z3⟩ | ⟨z1, m, z2, z3, z4⟩
      · refine ⟨_, z2, ?_⟩
        by_cases y : 0 ≤ x0 ∧ x0 ≤ 3
        · have e1 : mNt S e = -2 := if_neg (fun w => z1 ⟨w, y⟩)
          rw [if_pos y, e1, if_neg (by decide)]
        · rw [if_neg y]
      · refine ⟨_, z3, ?_⟩
        have e1 : mNt S e = -6 := (if_pos z1.1).trans (if_pos ((hT _ (cN3 z1.1)).cs.1 z2))
        rw [if_pos z1.2, e1, if_neg (by decide)]
      · refine ⟨_, z4, ?_⟩
        obtain ⟨d1, d2, d3⟩ := (hT _ (cN3 z1.1)).cs.2 m z2 z3
        have e1 : mNt S e = 0 := (if_pos z1.1).trans (if_neg d1)
        rw [if_pos z1.2, if_pos e1, d2]
        unfold aJu
        rw [aTl_c4 m 0 (mA S) (fun i _ hi => d3 i (by omega))])) (fun S1 hm1 hA1 hQ1 hk1 => ?_) (fun x y h1 h2 => h2.trans h1.symm) (by omega) (by omega)
  have ha1 : aOk (mA S1) := by rw [hA1]; exact ha.1
  refine (c_m_judge hm1 hA1 ha.1 hQ1.2.2.2.2.2.2.1 e x0).mono (fun v w' z => ⟨_, z, ?_⟩)
  obtain ⟨e1, e2, e3⟩ := mNt_cg hk1
  have f2 : ∀ q, mTc S1 q = mTc S q := fun q => congrFun e2 q
  have f3 : ∀ q, mTf S1 q = mTf S q := fun q => congrFun e3 q
  rw [e1, f2, f3]
theorem w_seasons {G : ab_G} {S : ab_S} {u : Nat} {im : Nat → Prop} {c bh nb st st2 n s t : Nat} {b : Nat → Int32} {f : Nat → sT} {tp : Nat → Nat} (h : kBd S im (mA S) c b bh nb st st2 u) (hQ : sQ S im n s f t tp) (hu : u + 128 < 2 ^ 20) (e : Int32) (p : Int32) : two G S u 7 M_s_seasons [.ref 50, .int e, .int p] 7 M_m_seasons [.ref 120, .int e, .int p] := by
  have ha := h.2.2.2.2.1
  have ht := hQ.2.1
  refine ask h hQ (fun x hx => by first | (rw [show x = _ from hx]; exact ⟨_, rfl⟩) | (obtain ⟨v0, rfl, -⟩ := hx; exact ⟨_, rfl⟩)) (P := fun x => x = .int (if aNf S (aR (mA S)) e p = 0 then (nI (aSo (mA S) (mTf S (cN e)) (mTc S (cN e)) (cN p))) else aNf S (aR (mA S)) e p)) (P' := fun x => x = .int (if aNf S (aR (mA S)) e p = 0 then (nI (aSo (mA S) (mTf S (cN e)) (mTc S (cN e)) (cN p))) else aNf S (aR (mA S)) e p)) (m := 0) (z := 0) ((p_s_seasons h ht (by omega) (fun t ht4 => (hQ.2.2.2.2.2.1 t ht4).sz) e p).mono (fun v w' z => ⟨_, z, by
      have hT := hQ.2.2.2.2.2.1
      rw [nf_eq hT]
      by_cases y : aNf S (aR (mA S)) e p = 0
      · obtain ⟨k1, k2⟩ := felt_c hT y
        rw [if_pos y, if_pos y, k1, aSo_c4 k2]
      · rw [if_neg y, if_neg y]⟩)) (fun S1 hm1 hA1 hQ1 hk1 => ?_) (fun x y h1 h2 => h2.trans h1.symm) (by omega) (by omega)
  have ha1 : aOk (mA S1) := by rw [hA1]; exact ha.1
  refine (c_m_seasons hm1 hA1 ha.1 hQ1.2.2.2.2.2.2.1 e p).mono (fun v w' z => ⟨_, z, ?_⟩)
  obtain ⟨e1, e2, e3⟩ := mNt_cg hk1
  have f2 : ∀ q, mTc S1 q = mTc S q := fun q => congrFun e2 q
  have f3 : ∀ q, mTf S1 q = mTf S q := fun q => congrFun e3 q
  rw [aNf_cg hk1, f2, f3]
theorem w_months {G : ab_G} {S : ab_S} {u : Nat} {im : Nat → Prop} {c bh nb st st2 n s t : Nat} {b : Nat → Int32} {f : Nat → sT} {tp : Nat → Nat} (h : kBd S im (mA S) c b bh nb st st2 u) (hQ : sQ S im n s f t tp) (hu : u + 128 < 2 ^ 20) (e : Int32) (p : Int32) : two G S u 7 M_s_months [.ref 50, .int e, .int p] 6 M_m_months [.ref 120, .int e, .int p] := by
  have ha := h.2.2.2.2.1
  have ht := hQ.2.1
  refine ask h hQ (fun x hx => by first | (rw [show x = _ from hx]; exact ⟨_, rfl⟩) | (obtain ⟨v0, rfl, -⟩ := hx; exact ⟨_, rfl⟩)) (P := fun x => x = .int (if aNf S (aR (mA S)) e p = 0 then (nI (aMs (mA S) (mTf S (cN e)) (mTc S (cN e)) (cN p))) else aNf S (aR (mA S)) e p)) (P' := fun x => x = .int (if aNf S (aR (mA S)) e p = 0 then (nI (aMs (mA S) (mTf S (cN e)) (mTc S (cN e)) (cN p))) else aNf S (aR (mA S)) e p)) (m := 0) (z := 0) ((p_s_months h ht (by omega) (fun t ht4 => (hQ.2.2.2.2.2.1 t ht4).sz) e p).mono (fun v w' z => ⟨_, z, by
      have hT := hQ.2.2.2.2.2.1
      rw [nf_eq hT]
      by_cases y : aNf S (aR (mA S)) e p = 0
      · obtain ⟨k1, k2⟩ := felt_c hT y
        rw [if_pos y, if_pos y, k1, aMs_c4 k2]
      · rw [if_neg y, if_neg y]⟩)) (fun S1 hm1 hA1 hQ1 hk1 => ?_) (fun x y h1 h2 => h2.trans h1.symm) (by omega) (by omega)
  have ha1 : aOk (mA S1) := by rw [hA1]; exact ha.1
  refine (c_m_months hm1 hA1 ha.1 hQ1.2.2.2.2.2.2.1 e p).mono (fun v w' z => ⟨_, z.D, ?_⟩)
  obtain ⟨e1, e2, e3⟩ := mNt_cg hk1
  have f2 : ∀ q, mTc S1 q = mTc S q := fun q => congrFun e2 q
  have f3 : ∀ q, mTf S1 q = mTf S q := fun q => congrFun e3 q
  rw [aNf_cg hk1, f2, f3]
theorem w_attempt {G : ab_G} {S : ab_S} {u : Nat} {im : Nat → Prop} {c bh nb st st2 n s t : Nat} {b : Nat → Int32} {f : Nat → sT} {tp : Nat → Nat} (h : kBd S im (mA S) c b bh nb st st2 u) (hQ : sQ S im n s f t tp) (hu : u + 128 < 2 ^ 20) (e : Int32) (p : Int32) : two G S u 7 M_s_attempt [.ref 50, .int e, .int p] 7 M_m_attempt [.ref 120, .int e, .int p] := by
  have ha := h.2.2.2.2.1
  have ht := hQ.2.1
  refine ask h hQ (fun x hx => by first | (rw [show x = _ from hx]; exact ⟨_, rfl⟩) | (obtain ⟨v0, rfl, -⟩ := hx; exact ⟨_, rfl⟩)) (P := fun x => x = .int (if aNf S (aR (mA S)) e p = 0 then (aAt (mA S) (aSo (mA S) (mTf S (cN e)) (mTc S (cN e)) (cN p)) (cN p)) else aNf S (aR (mA S)) e p)) (P' := fun x => x = .int (if aNf S (aR (mA S)) e p = 0 then (aAt (mA S) (aSo (mA S) (mTf S (cN e)) (mTc S (cN e)) (cN p)) (cN p)) else aNf S (aR (mA S)) e p)) (m := 4) (z := 16) ((p_s_attempt h ht (by omega) (fun t ht4 => (hQ.2.2.2.2.2.1 t ht4).sz) e p).mono (fun v w' z => ⟨_, z, by
      have hT := hQ.2.2.2.2.2.1
      rw [nf_eq hT]
      by_cases y : aNf S (aR (mA S)) e p = 0
      · obtain ⟨k1, k2⟩ := felt_c hT y
        rw [if_pos y, if_pos y, k1, aSo_c4 k2]
      · rw [if_neg y, if_neg y]⟩)) (fun S1 hm1 hA1 hQ1 hk1 => ?_) (fun x y h1 h2 => h2.trans h1.symm) (by omega) (by omega)
  have ha1 : aOk (mA S1) := by rw [hA1]; exact ha.1
  refine (c_m_attempt hm1 hA1 ha.1 hQ1.2.2.2.2.2.2.1 e p).mono (fun v w' z => ⟨_, z, ?_⟩)
  obtain ⟨e1, e2, e3⟩ := mNt_cg hk1
  have f2 : ∀ q, mTc S1 q = mTc S q := fun q => congrFun e2 q
  have f3 : ∀ q, mTf S1 q = mTf S q := fun q => congrFun e3 q
  rw [aNf_cg hk1, f2, f3]
