/-! ===== some stops ===== -/
theorem itr_put {a : Nat → Int32} (h : aGood a) : ∀ k, aE (itr a k) = aI a (a 40) k ∧ itr a k = up1 (mPut a (aR a) (aI a (a 40) k)) 41 (a 41 + nI k)
  | 0 => ⟨rfl, by
    show a = up1 (mPut a (aR a) (aE a)) 41 (a 41 + nI 0)
    rw [show mPut a (aR a) (aE a) = a from mPut_id (S := rwS a) h.1.1]
    funext i
    by_cases z : i = 41
    · subst z; rw [up1_s]; exact (Int32.add_zero _).symm
    · rw [up1_o z]⟩
  | k + 1 => by
    obtain ⟨i1, i2⟩ := itr_put h k
    have hk := (itr_ok h k).1.1
    have hR : aR (itr a k) = aR a := (itr_ok h k).2.R
    have R4 := h.1.R.2
    have z : aWy (itr a k) (lN 0) = 0 := by
      rw [aWy_N (by omega)]
      unfold aDw
      rw [if_pos (by omega)]
      unfold aY spY
      rw [if_pos rfl]
    have e : itr a (k + 1) = aGo (itr a k) 0 := by
      show aft (itr a k) (lN 0) = _
      rw [aft_0 z, jW_N (by omega)]
      unfold aDo
      rw [if_pos (by omega)]
    have hX : ∀ i, (i < 32 ∨ i = 40 ∨ 43 ≤ i) → itr a k i = a i := fun i hi => by
      rw [i2, up1_o (by omega)]
      unfold mPut
      rw [if_neg (by omega), if_neg (by omega)]
    obtain ⟨q1, q2, q3, q4⟩ := spar_cg (S := rwS a) (S' := rwS (itr a k)) hX h.1.2.1
    have q4' : itr a k 40 = a 40 := q4
    obtain ⟨g1, g2, g3⟩ := aGo_ok hk (q := 0) (Or.inr rfl)
    have eS : aS (itr a k) (itr a k 40) (aE (itr a k)) 0 = aI a (a 40) (k + 1) := by
      rw [aI_s, i1, q4']
      unfold aS
      rw [q1, q2, q3, hR]
    refine ⟨by rw [e, g3, eS], ?_⟩
    rw [e]
    unfold aGo
    rw [eS, hR]
    have e41 : itr a k 41 = a 41 + nI k := by rw [i2, up1_s]
    rw [e41]
    have m1 : mPut (itr a k) (aR a) (aI a (a 40) (k + 1)) = up1 (mPut a (aR a) (aI a (a 40) (k + 1))) 41 (a 41 + nI k) := by
      rw [i2]
      exact mPut_mPut.resolve_right (by omega)
    rw [m1]
    funext i
    by_cases z : i = 41
    · subst z
      rw [up1_s, up1_s, Int32.add_assoc, nI_1]
    · rw [up1_o z, up1_o z, up1_o z]
theorem itr_o {a : Nat → Int32} (h : aGood a) (k : Nat) : ∀ i, (i < 28 ∨ 42 ≤ i) → itr a k i = a i := fun i hi => by
  have R4 := h.1.R.2
  rw [(itr_put h k).2, up1_o (by omega)]
  unfold mPut
  rw [if_neg (by omega), if_neg (by omega)]
theorem w_stops {G : ab_G} {S : ab_S} {u : Nat} {im : Nat → Prop} {c bh nb st st2 n s t : Nat} {b : Nat → Int32} {f : Nat → sT} {tp : Nat → Nat} (h : kBd S im (mA S) c b bh nb st st2 u) (hQ : sQ S im n s f t tp) (hu : u + 128 < 2 ^ 20) (e : Int32) : two G S u 7 M_s_stops [.ref 50, .int e] 6 M_m_stops [.ref 120, .int e] := by
  have ht := hQ.2.1
  have ha := h.2.2.2.2.1
  have him := h.2.2.2.1.1
  have hbh := h.bh
  obtain ⟨hpa, h42, hpn⟩ := hQ.2.2.1
  have hs10 := hpa.2.2.2.1
  have n50 : 50 ∉ dL bh := fun w => by simp only [dL, List.mem_cons, List.not_mem_nil, or_false] at w; omega
  have R4 := ha.1.R.2
  have ref : ∀ S1, mSh S1 → aOk (mA S1) → mA S1 42 = nI s → ab_C G 6 M_m_stops [.ref 120, .int e] (sw S1) (fun v w' => ∃ S', w' = sw S' ∧ sEq [121, 125, 126, 127] (m0 S1) S' ∧ (((1 ≤ e ∧ e ≤ 99) ∧ v = some (.int (nI (mLe (aI (mA S1) (mA S1 40) (cN e)) (aR (mA S1))))) ∧ mA S' = aNd (mA S1) (up1 (mPut (mA S1) (aR (mA S1)) (aI (mA S1) (mA S1 40) (cN e))) 41 (mA S1 41 + e)) s) ∨ (¬ (1 ≤ e ∧ e ≤ 99) ∧ v = some (.int (-3)) ∧ mA S' = mA (m0 S1)))) := fun S1 hm1 ha1 h421 => by
    have hr := c_m_stops (G := G) hm1 ha1.v ha1.l ha1.2.2 s h421 hs10 e
    rw [m_E (m0 S1)] at hr
    exact hr
  refine (p_s_stops h ht hu hpa e).mono (fun v w1 z => ?_)
  rcases z with ⟨z1, z⟩ | ⟨z1, rfl, S1, b1, s1, rfl, hE, hB, hd, hp⟩
  · obtain ⟨rfl, S1, b1, s1, rfl, hE, hB, hd, p1, p2⟩ := z
    obtain ⟨hm1, hA1, r3, r4, r5, r6, r7, hk⟩ := hQ.dd (n' := 0) (s' := 0) (f' := f) him hbh hE dL_C (congrFun (hE.2.2.1 50 n50) 1)
    have e50 : sI S1 50 1 = sI S 50 1 := congrFun (hE.2.2.1 50 n50) 1
    have ha1 : aOk (mA S1) := by rw [hA1]; exact ha.1
    have h421 : mA S1 42 = nI s := by rw [hA1]; exact h42
    refine ⟨S1, rfl, (by exact ⟨_, rfl⟩), hm1, hB.1.1, hB.1.2.1 0 (by decide), (ref S1 hm1 ha1 h421).mono (fun v' w2 y => ?_)⟩
    obtain ⟨S2, rfl, hE2, y⟩ := y
    rcases y with ⟨y1, -⟩ | ⟨-, rfl, y2⟩
    · exact absurd y1 z1
    · exact ⟨rfl, S2, rfl, deed_no h hQ hu hE dL_C e50 hB (by omega) hd (p2 (fun z => z)) (qt.mE hE2 (fun y w => by simp only [List.mem_cons, List.not_mem_nil, or_false] at w; omega) y2)⟩
  · obtain ⟨hm1, hA1, r3, r4, r5, r6, r7, hk⟩ := hQ.dd (n' := 0) (s' := 0) (f' := f) him hbh hE dL_C (congrFun (hE.2.2.1 50 n50) 1)
    have e50 : sI S1 50 1 = sI S 50 1 := congrFun (hE.2.2.1 50 n50) 1
    have ha1 : aOk (mA S1) := by rw [hA1]; exact ha.1
    have h421 : mA S1 42 = nI s := by rw [hA1]; exact h42
    refine ⟨S1, rfl, (by exact ⟨_, rfl⟩), hm1, hB.1.1, hB.1.2.1 0 (by decide), (ref S1 hm1 ha1 h421).mono (fun v' w2 y => ?_)⟩
    obtain ⟨S2, rfl, hE2, y⟩ := y
    have e0 : 0 ≤ e := Int32.le_trans (by decide) z1.1
    have eX := itr_put ha (cN e)
    rw [← nI_cN e0] at eX
    rcases y with ⟨-, rfl, y2⟩ | ⟨y1, -⟩
    · obtain ⟨m1, m2, m3⟩ := m0_step hE2 (fun y w => by simp only [List.mem_cons, List.not_mem_nil, or_false] at w; omega)
      rw [hA1, ← eX.2] at y2
      refine ⟨?_, S2, rfl, deed_yes h hQ hu hE dL_C e50 hB (by omega) hd hp (itr_o ha _) m1 m2 m3 y2⟩
      rw [hA1, aW_le (itr_ok ha _).1.1, eX.1]
    · exact absurd z1 y1
