/-! ===== the deeds called ===== -/
theorem aft_0 {a : Nat → Int32} {v : Int64} (h : aWy a v = 0) : aft a v = aDo a (jW v) := if_pos h
theorem aft_n {a : Nat → Int32} {v : Int64} (h : ¬ aWy a v = 0) : aft a v = a := if_neg h
theorem aft_o {a : Nat → Int32} (ha : aOk a) (v : Int64) : ∀ i, (i < 28 ∨ 42 ≤ i) → aft a v i = a i := fun i hi => by
  by_cases z : aWy a v = 0
  · rw [aft_0 z]
    obtain ⟨u, e1, e2, e3⟩ := aWy_0 z
    rw [e3]
    exact (aDo_ok ha e2).2.2 i hi
  · rw [aft_n z]
theorem aW_le {a : Nat → Int32} (ha : aOk a) (n : Nat) : mLe (aW a) n = mLe (aE a) n := by
  obtain ⟨k1, k2, k3⟩ := rowT_in ha
  have h6 : aW a < 625 := by have := p5_6 ha.R.2; omega
  rw [k3, cSt_le h6]
theorem w_stop {G : ab_G} {S : ab_S} {u : Nat} {im : Nat → Prop} {c bh nb st st2 n s t : Nat} {b : Nat → Int32} {f : Nat → sT} {tp : Nat → Nat} (h : kBd S im (mA S) c b bh nb st st2 u) (hQ : sQ S im n s f t tp) (hu : u + 128 < 2 ^ 20) (d : Int32) : two G S u 7 M_s_stop [.ref 50, .int d] 6 M_m_stop [.ref 120, .int d] := by
  have ht := hQ.2.1
  have ha := h.2.2.2.2.1
  have him := h.2.2.2.1.1
  have hbh := h.bh
  obtain ⟨hpa, h42, hpn⟩ := hQ.2.2.1
  have hs10 := hpa.2.2.2.1
  have n50 : 50 ∉ dL bh := fun w => by simp only [dL, List.mem_cons, List.not_mem_nil, or_false] at w; omega
  have R4 := ha.1.R.2
  have ref : ∀ S1, mSh S1 → aOk (mA S1) → mA S1 42 = nI s → ab_C G 6 M_m_stop [.ref 120, .int d] (sw S1) (fun v w' => ∃ S', w' = sw S' ∧ sEq [121, 125, 126, 127] (m0 S1) S' ∧ (((if d < 0 then 1 else nI (aY (mA S1) (mA S1 40) (aE (mA S1)) (cN d))) = 0 ∧ v = some (.int (nI (mLe (aS (mA S1) (mA S1 40) (aE (mA S1)) (cN d)) (aR (mA S1))))) ∧ mA S' = aNd (mA S1) (aGo (mA S1) (cN d)) s) ∨ (¬ (if d < 0 then 1 else nI (aY (mA S1) (mA S1 40) (aE (mA S1)) (cN d))) = 0 ∧ v = some (.int (-10 - (if d < 0 then 1 else nI (aY (mA S1) (mA S1 40) (aE (mA S1)) (cN d))))) ∧ mA S' = mA (m0 S1)))) := fun S1 hm1 ha1 h421 => by
    have hr := c_m_stop (G := G) hm1 ha1.v ha1.l ha1.2.2 s h421 hs10 d
    rw [m_E (m0 S1)] at hr
    exact hr
  refine (p_s_stop h ht (by omega) hpa d).mono (fun v w1 z => ?_)
  rcases z with ⟨z1, z⟩ | ⟨z1, z⟩
  · obtain ⟨rfl, S1, b1, s1, rfl, hE, hB, hd, p1, p2⟩ := z
    obtain ⟨hm1, hA1, r3, r4, r5, r6, r7, hk⟩ := hQ.dd (n' := 0) (s' := 0) (f' := f) him hbh hE dL_C (congrFun (hE.2.2.1 50 n50) 1)
    have e50 : sI S1 50 1 = sI S 50 1 := congrFun (hE.2.2.1 50 n50) 1
    have ha1 : aOk (mA S1) := by rw [hA1]; exact ha.1
    have h421 : mA S1 42 = nI s := by rw [hA1]; exact h42
    refine ⟨S1, rfl, (by exact ⟨_, rfl⟩), hm1, hB.1.1, hB.1.2.1 0 (by decide), (ref S1 hm1 ha1 h421).mono (fun v' w2 y => ?_)⟩
    have e1 : (if d < 0 then (1 : Int32) else nI (aY (mA S1) (mA S1 40) (aE (mA S1)) (cN d))) = 1 := by
      by_cases y : d < 0
      · exact if_pos y
      · rw [if_neg y]
        have y0 := Int32.not_lt.mp y
        have y3 : ¬ cN d ≤ 3 := fun w => z1 ⟨y0, by rw [nI_cN y0]; exact (nI_leI (b := 3) (by have := cN_31 d; omega) (by decide)).mpr w⟩
        have e2 : aY (mA S1) (mA S1 40) (aE (mA S1)) (cN d) = 1 := by
          unfold aY spY
          rw [if_neg (by omega), if_pos (by rw [hA1]; omega)]
        rw [e2]
        rfl
    rw [e1] at y
    obtain ⟨S2, rfl, hE2, y⟩ := y
    rcases y with ⟨y1, -⟩ | ⟨-, rfl, y2⟩
    · exact absurd y1 (by decide)
    · exact ⟨rfl, S2, rfl, deed_no h hQ hu hE dL_C e50 hB (by omega) hd (p2 (fun z => z)) (qt.mE hE2 (fun y w => by simp only [List.mem_cons, List.not_mem_nil, or_false] at w; omega) y2)⟩
  · obtain ⟨rfl, S1, b1, s1, rfl, hE, hB, hd, p1, p2⟩ := z
    obtain ⟨hm1, hA1, r3, r4, r5, r6, r7, hk⟩ := hQ.dd (n' := 0) (s' := 0) (f' := f) him hbh hE dL_C (congrFun (hE.2.2.1 50 n50) 1)
    have e50 : sI S1 50 1 = sI S 50 1 := congrFun (hE.2.2.1 50 n50) 1
    have ha1 : aOk (mA S1) := by rw [hA1]; exact ha.1
    have h421 : mA S1 42 = nI s := by rw [hA1]; exact h42
    obtain ⟨q, hq, ekq, enq⟩ := in_get (n := 3) (by decide) z1
    have nd0 : ¬ d < 0 := Int32.not_lt.mpr z1.1
    have eY : aWy (mA S) (lN (cN d)) = aY (mA S) (mA S 40) (aE (mA S)) (cN d) := by
      rw [aWy_N (by omega)]
      unfold aDw
      rw [if_pos (by omega)]
    refine ⟨S1, rfl, (by exact ⟨_, rfl⟩), hm1, hB.1.1, hB.1.2.1 0 (by decide), (ref S1 hm1 ha1 h421).mono (fun v' w2 y => ?_)⟩
    rw [if_neg nd0, hA1, ← eY] at y
    have hY := aWy_lt (a := mA S) (v := lN (cN d))
    obtain ⟨S2, rfl, hE2, y⟩ := y
    by_cases z : aWy (mA S) (lN (cN d)) = 0
    · have eX : aft (mA S) (lN (cN d)) = aGo (mA S) (cN d) := by
        rw [aft_0 z, jW_N (by omega)]
        unfold aDo
        rw [if_pos (by omega)]
      rcases y with ⟨-, rfl, y2⟩ | ⟨y1, -⟩
      · obtain ⟨m1, m2, m3⟩ := m0_step hE2 (fun y w => by simp only [List.mem_cons, List.not_mem_nil, or_false] at w; omega)
        refine ⟨?_, S2, rfl, deed_yes h hQ hu hE dL_C e50 hB (by omega) hd (p1 z) (aft_o ha.1 _) m1 m2 m3 (by rw [eX]; exact y2)⟩
        have hd0 : cN d < aR (mA S) ∨ cN d = 0 := aY_0 (eY.symm.trans z)
        obtain ⟨g1, g2, g3⟩ := aGo_ok ha.1 hd0
        rw [if_pos z, eX, aW_le g1, g3]
      · exact absurd (by rw [z]; rfl) y1
    · rcases y with ⟨y1, -⟩ | ⟨-, rfl, y2⟩
      · exact absurd ((nI_eq (b := 0) (by omega) (by decide)).mp y1) z
      · have eX : aft (mA S) (lN (cN d)) = mA S := aft_n z
        rw [eX] at hB hd
        exact ⟨by rw [if_neg z], S2, rfl, deed_no h hQ hu hE dL_C e50 hB (by omega) hd (p2 z) (qt.mE hE2 (fun y w => by simp only [List.mem_cons, List.not_mem_nil, or_false] at w; omega) y2)⟩
theorem w_rug {G : ab_G} {S : ab_S} {u : Nat} {im : Nat → Prop} {c bh nb st st2 n s t : Nat} {b : Nat → Int32} {f : Nat → sT} {tp : Nat → Nat} (h : kBd S im (mA S) c b bh nb st st2 u) (hQ : sQ S im n s f t tp) (hu : u + 128 < 2 ^ 20) (p : Int32) : two G S u 7 M_s_rug [.ref 50, .int p] 3 M_m_rug [.ref 120, .int p] := by
  have ht := hQ.2.1
  have ha := h.2.2.2.2.1
  have him := h.2.2.2.1.1
  have hbh := h.bh
  obtain ⟨hpa, h42, hpn⟩ := hQ.2.2.1
  have hs10 := hpa.2.2.2.1
  have n50 : 50 ∉ dL bh := fun w => by simp only [dL, List.mem_cons, List.not_mem_nil, or_false] at w; omega
  have R4 := ha.1.R.2
  refine (p_s_rug h ht (by omega) hpa p).mono (fun v w1 z => ?_)
  rcases z with ⟨z1, z⟩ | ⟨z1, z⟩
  · obtain ⟨rfl, S1, b1, s1, rfl, hE, hB, hd, p1, p2⟩ := z
    obtain ⟨hm1, hA1, r3, r4, r5, r6, r7, hk⟩ := hQ.dd (n' := 0) (s' := 0) (f' := f) him hbh hE dL_C (congrFun (hE.2.2.1 50 n50) 1)
    have e50 : sI S1 50 1 = sI S 50 1 := congrFun (hE.2.2.1 50 n50) 1
    have ha1 : aOk (mA S1) := by rw [hA1]; exact ha.1
    have h421 : mA S1 42 = nI s := by rw [hA1]; exact h42
    refine ⟨S1, rfl, (by exact ⟨_, rfl⟩), hm1, hB.1.1, hB.1.2.1 0 (by decide), (c_m_rug hm1 ha1.v ha1.l ha1.2.2 s h421 hs10 p).mono (fun v' w2 y => ?_)⟩
    obtain ⟨S2, rfl, hE2, y⟩ := y
    rcases y with ⟨y1, -⟩ | ⟨-, rfl, y2⟩
    · exact absurd (show 0 ≤ p ∧ cN p < aR (mA S) by rw [← hA1]; exact y1) z1
    · exact ⟨rfl, S2, rfl, deed_no h hQ hu hE dL_C e50 hB (by omega) hd (p2 (fun z => z)) (qt.mE hE2 (fun y w => by simp only [List.mem_cons, List.not_mem_nil, or_false] at w; omega) y2)⟩
  · obtain ⟨rfl, S1, b1, s1, rfl, hE, hB, hd, p1, p2⟩ := z
    obtain ⟨hm1, hA1, r3, r4, r5, r6, r7, hk⟩ := hQ.dd (n' := 0) (s' := 0) (f' := f) him hbh hE dL_C (congrFun (hE.2.2.1 50 n50) 1)
    have e50 : sI S1 50 1 = sI S 50 1 := congrFun (hE.2.2.1 50 n50) 1
    have ha1 : aOk (mA S1) := by rw [hA1]; exact ha.1
    have h421 : mA S1 42 = nI s := by rw [hA1]; exact h42
    have eY : aWy (mA S) (lN (10 + cN p)) = 0 := by
      rw [aWy_N (by omega)]
      unfold aDw
      rw [if_neg (by omega), if_neg (by omega), if_pos (by omega), if_pos (by omega)]
    have eX : aft (mA S) (lN (10 + cN p)) = up1 (mA S) (32 + cN p) 4 := by
      rw [aft_0 eY, jW_N (by omega)]
      unfold aDo
      rw [if_neg (by omega), if_pos (by omega), show 32 + (10 + cN p) - 10 = 32 + cN p by omega]
    refine ⟨S1, rfl, (by exact ⟨_, rfl⟩), hm1, hB.1.1, hB.1.2.1 0 (by decide), (c_m_rug hm1 ha1.v ha1.l ha1.2.2 s h421 hs10 p).mono (fun v' w2 y => ?_)⟩
    obtain ⟨S2, rfl, hE2, y⟩ := y
    rcases y with ⟨-, rfl, y2⟩ | ⟨y1, -⟩
    · obtain ⟨m1, m2, m3⟩ := m0_step hE2 (fun y w => by simp only [List.mem_cons, List.not_mem_nil, or_false] at w; omega)
      have y3 : mA S2 = aNd (mA S1) (up1 (mA S1) (32 + cN p) 4) s := y2
      rw [hA1, ← eX] at y3
      refine ⟨?_, S2, rfl, deed_yes h hQ hu hE dL_C e50 hB (by omega) hd (p1 eY) (aft_o ha.1 _) m1 m2 m3 y3⟩
      show some (Value.int (mA S1 (32 + cN p))) = _
      rw [hA1, row_wa ha.1 z1.2]
    · exact absurd (show 0 ≤ p ∧ cN p < aR (mA S1) by rw [hA1]; exact z1) y1
theorem w_month {G : ab_G} {S : ab_S} {u : Nat} {im : Nat → Prop} {c bh nb st st2 n s t : Nat} {b : Nat → Int32} {f : Nat → sT} {tp : Nat → Nat} (h : kBd S im (mA S) c b bh nb st st2 u) (hQ : sQ S im n s f t tp) (hu : u + 128 < 2 ^ 20) (d : Int32) : two G S u 7 M_s_month [.ref 50, .int d] 3 M_m_month [.ref 120, .int d] := by
  have ht := hQ.2.1
  have ha := h.2.2.2.2.1
  have him := h.2.2.2.1.1
  have hbh := h.bh
  obtain ⟨hpa, h42, hpn⟩ := hQ.2.2.1
  have hs10 := hpa.2.2.2.1
  have n50 : 50 ∉ dL bh := fun w => by simp only [dL, List.mem_cons, List.not_mem_nil, or_false] at w; omega
  have R4 := ha.1.R.2
  refine (p_s_month h ht (by omega) hpa d).mono (fun v w1 z => ?_)
  rcases z with ⟨z1, z⟩ | ⟨z1, z⟩
  · obtain ⟨rfl, S1, b1, s1, rfl, hE, hB, hd, p1, p2⟩ := z
    obtain ⟨hm1, hA1, r3, r4, r5, r6, r7, hk⟩ := hQ.dd (n' := 0) (s' := 0) (f' := f) him hbh hE dL_C (congrFun (hE.2.2.1 50 n50) 1)
    have e50 : sI S1 50 1 = sI S 50 1 := congrFun (hE.2.2.1 50 n50) 1
    have ha1 : aOk (mA S1) := by rw [hA1]; exact ha.1
    have h421 : mA S1 42 = nI s := by rw [hA1]; exact h42
    refine ⟨S1, rfl, (by exact ⟨_, rfl⟩), hm1, hB.1.1, hB.1.2.1 0 (by decide), (c_m_month hm1 ha1.v ha1.l ha1.2.2 s h421 hs10 d).mono (fun v' w2 y => ?_)⟩
    obtain ⟨S2, rfl, hE2, y⟩ := y
    rcases y with ⟨y1, -⟩ | ⟨-, rfl, y2⟩
    · exact absurd y1 z1
    · exact ⟨rfl, S2, rfl, deed_no h hQ hu hE dL_C e50 hB (by omega) hd (p2 (fun z => z)) (qt.mE hE2 (fun y w => by simp only [List.mem_cons, List.not_mem_nil, or_false] at w; omega) y2)⟩
  · obtain ⟨rfl, S1, b1, s1, rfl, hE, hB, hd, p1, p2⟩ := z
    obtain ⟨hm1, hA1, r3, r4, r5, r6, r7, hk⟩ := hQ.dd (n' := 0) (s' := 0) (f' := f) him hbh hE dL_C (congrFun (hE.2.2.1 50 n50) 1)
    have e50 : sI S1 50 1 = sI S 50 1 := congrFun (hE.2.2.1 50 n50) 1
    have ha1 : aOk (mA S1) := by rw [hA1]; exact ha.1
    have h421 : mA S1 42 = nI s := by rw [hA1]; exact h42
    obtain ⟨q, hq, ekq, enq⟩ := in_get (n := 9) (by decide) z1
    have eY : aWy (mA S) (lN (20 + cN d)) = 0 := by
      rw [aWy_N (by omega)]
      unfold aDw
      rw [if_neg (by omega), if_neg (by omega), if_neg (by omega), if_pos (by omega)]
    have eX : aft (mA S) (lN (20 + cN d)) = up1 (mA S) 40 d := by
      rw [aft_0 eY, jW_N (by omega)]
      unfold aDo
      rw [if_neg (by omega), if_neg (by omega), if_pos (by omega), show 20 + cN d - 20 = cN d by omega, ← nI_cN z1.1]
    refine ⟨S1, rfl, (by exact ⟨_, rfl⟩), hm1, hB.1.1, hB.1.2.1 0 (by decide), (c_m_month hm1 ha1.v ha1.l ha1.2.2 s h421 hs10 d).mono (fun v' w2 y => ?_)⟩
    obtain ⟨S2, rfl, hE2, y⟩ := y
    rcases y with ⟨-, rfl, y2⟩ | ⟨y1, -⟩
    · obtain ⟨m1, m2, m3⟩ := m0_step hE2 (fun y w => by simp only [List.mem_cons, List.not_mem_nil, or_false] at w; omega)
      have y3 : mA S2 = aNd (mA S1) (up1 (mA S1) 40 d) s := y2
      rw [hA1, ← eX] at y3
      refine ⟨?_, S2, rfl, deed_yes h hQ hu hE dL_C e50 hB (by omega) hd (p1 eY) (aft_o ha.1 _) m1 m2 m3 y3⟩
      show some (Value.int (mA S1 40)) = _
      rw [hA1]
    · exact absurd z1 y1
theorem w_give {G : ab_G} {S : ab_S} {u : Nat} {im : Nat → Prop} {c bh nb st st2 n s t : Nat} {b : Nat → Int32} {f : Nat → sT} {tp : Nat → Nat} (h : kBd S im (mA S) c b bh nb st st2 u) (hQ : sQ S im n s f t tp) (hu : u + 128 < 2 ^ 20) (p e : Int32) : two G S u 7 M_s_give [.ref 50, .int p, .int e] 3 M_m_give [.ref 120, .int p, .int e] := by
  have ht := hQ.2.1
  have ha := h.2.2.2.2.1
  have him := h.2.2.2.1.1
  have hbh := h.bh
  obtain ⟨hpa, h42, hpn⟩ := hQ.2.2.1
  have hs10 := hpa.2.2.2.1
  have n50 : 50 ∉ dL bh := fun w => by simp only [dL, List.mem_cons, List.not_mem_nil, or_false] at w; omega
  have R4 := ha.1.R.2
  refine (p_s_give h ht (by omega) hpa p e).mono (fun v w1 z => ?_)
  rcases z with ⟨z1, z⟩ | ⟨z1, z⟩
  · obtain ⟨rfl, S1, b1, s1, rfl, hE, hB, hd, p1, p2⟩ := z
    obtain ⟨hm1, hA1, r3, r4, r5, r6, r7, hk⟩ := hQ.dd (n' := 0) (s' := 0) (f' := f) him hbh hE dL_C (congrFun (hE.2.2.1 50 n50) 1)
    have e50 : sI S1 50 1 = sI S 50 1 := congrFun (hE.2.2.1 50 n50) 1
    have ha1 : aOk (mA S1) := by rw [hA1]; exact ha.1
    have h421 : mA S1 42 = nI s := by rw [hA1]; exact h42
    refine ⟨S1, rfl, (by exact ⟨_, rfl⟩), hm1, hB.1.1, hB.1.2.1 0 (by decide), (c_m_give hm1 ha1.v ha1.l ha1.2.2 s h421 hs10 p e).mono (fun v' w2 y => ?_)⟩
    obtain ⟨S2, rfl, hE2, y⟩ := y
    rcases y with ⟨y1, -⟩ | ⟨-, rfl, y2⟩
    · exact absurd (show (0 ≤ p ∧ cN p < aR (mA S)) ∧ (0 ≤ e ∧ cN e < aR (mA S)) by rw [← hA1]; exact ⟨y1.1, y1.2.1⟩) z1
    · exact ⟨rfl, S2, rfl, deed_no h hQ hu hE dL_C e50 hB (by omega) hd (p2 (fun z => z)) (qt.mE hE2 (fun y w => by simp only [List.mem_cons, List.not_mem_nil, or_false] at w; omega) y2)⟩
  · obtain ⟨rfl, S1, b1, s1, rfl, hE, hB, hd, p1, p2⟩ := z
    obtain ⟨hm1, hA1, r3, r4, r5, r6, r7, hk⟩ := hQ.dd (n' := 0) (s' := 0) (f' := f) him hbh hE dL_C (congrFun (hE.2.2.1 50 n50) 1)
    have e50 : sI S1 50 1 = sI S 50 1 := congrFun (hE.2.2.1 50 n50) 1
    have ha1 : aOk (mA S1) := by rw [hA1]; exact ha.1
    have h421 : mA S1 42 = nI s := by rw [hA1]; exact h42
    have hp1 := z1.1.2
    have he1 := z1.2.2
    have eW : aWy (mA S) (lN ((100 + cN p * 10) + cN e)) = if p = e then 1 else 0 := by
      have k1 : (100 + cN p * 10 + cN e - 100) / 10 = cN p := by omega
      have k2 : (100 + cN p * 10 + cN e) % 10 = cN e := by omega
      rw [aWy_N (by omega)]
      unfold aDw
      rw [if_neg (by omega), if_neg (by omega), if_neg (by omega), if_neg (by omega), if_neg (by omega), if_pos (by omega), k1, k2]
      by_cases y : p = e
      · rw [if_pos y, if_neg (fun w => w.2.2 (by rw [y]))]
      · rw [if_neg y, if_pos ⟨hp1, he1, fun w => y (by rw [nI_cN z1.1.1, nI_cN z1.2.1, w])⟩]
    refine ⟨S1, rfl, (by exact ⟨_, rfl⟩), hm1, hB.1.1, hB.1.2.1 0 (by decide), (c_m_give hm1 ha1.v ha1.l ha1.2.2 s h421 hs10 p e).mono (fun v' w2 y => ?_)⟩
    obtain ⟨S2, rfl, hE2, y⟩ := y
    by_cases q : p = e
    · rw [if_pos q] at eW
      have nz : ¬ aWy (mA S) (lN ((100 + cN p * 10) + cN e)) = 0 := by omega
      rcases y with ⟨y1, -⟩ | ⟨-, rfl, y2⟩
      · exact absurd q y1.2.2
      · rw [aft_n nz] at hB hd
        refine ⟨?_, S2, rfl, deed_no h hQ hu hE dL_C e50 hB (by omega) hd (p2 nz) (qt.mE hE2 (fun y w => by simp only [List.mem_cons, List.not_mem_nil, or_false] at w; omega) y2)⟩
        rw [if_neg nz, eW]
        rfl
    · rw [if_neg q] at eW
      have eX : aft (mA S) (lN ((100 + cN p * 10) + cN e)) = mGiv (mA S) (cN p) (cN e) := by
        rw [aft_0 eW, jW_N (by omega)]
        unfold aDo
        rw [if_neg (by omega), if_neg (by omega), if_neg (by omega), show (100 + cN p * 10 + cN e - 100) / 10 = cN p by omega, show (100 + cN p * 10 + cN e) % 10 = cN e by omega]
      rcases y with ⟨-, rfl, y2⟩ | ⟨y1, -⟩
      · obtain ⟨m1, m2, m3⟩ := m0_step hE2 (fun y w => by simp only [List.mem_cons, List.not_mem_nil, or_false] at w; omega)
        have y3 : mA S2 = aNd (mA S1) (mGiv (mA S1) (cN p) (cN e)) s := y2
        rw [hA1, ← eX] at y3
        refine ⟨?_, S2, rfl, deed_yes h hQ hu hE dL_C e50 hB (by omega) hd (p1 eW) (aft_o ha.1 _) m1 m2 m3 y3⟩
        have hgX : aGood (aft (mA S) (lN ((100 + cN p * 10) + cN e))) := hB.2.2.2.2.1
        rw [if_pos eW, seaC_v hgX.1 (by omega), eX]
        show some (Value.int (mA S1 (28 + cN e))) = some (Value.int (up1 (up1 (mA S) (28 + cN p) (mA S (28 + cN e))) (28 + cN e) (mA S (28 + cN p)) (28 + cN p)))
        have hne : cN p ≠ cN e := fun w => q (by rw [nI_cN z1.1.1, nI_cN z1.2.1, w])
        rw [hA1, up1_o (by omega), up1_s]
      · exact absurd (show (0 ≤ p ∧ cN p < aR (mA S1)) ∧ (0 ≤ e ∧ cN e < aR (mA S1)) ∧ ¬ p = e by rw [hA1]; exact ⟨z1.1, z1.2, q⟩) y1
theorem w_undo {G : ab_G} {S : ab_S} {u : Nat} {im : Nat → Prop} {c bh nb st st2 n s t : Nat} {b : Nat → Int32} {f : Nat → sT} {tp : Nat → Nat} (h : kBd S im (mA S) c b bh nb st st2 u) (hQ : sQ S im n s f t tp) (hu : u + 128 < 2 ^ 20) (e : Int32) : two G S u 7 M_s_undo [.ref 50, .int e] 1 M_m_undo [.ref 120, .int e] := by
  have ht := hQ.2.1
  have ha := h.2.2.2.2.1
  have him := h.2.2.2.1.1
  have hbh := h.bh
  obtain ⟨hpa, h42, hpn⟩ := hQ.2.2.1
  have hs10 := hpa.2.2.2.1
  have n50 : 50 ∉ dL bh := fun w => by simp only [dL, List.mem_cons, List.not_mem_nil, or_false] at w; omega
  have R4 := ha.1.R.2
  have hun : ∀ t, t < s → aGood (mUn (mA S) t) ∧ sta (mA S) (mUn (mA S) t) ∧ f ((n + 10 - s + t) % 10) = rowT (mUn (mA S) t) := fun t ht2 => ⟨(hpn t ht2).1, fun i hi => by
    unfold mUn
    rw [if_neg (by omega), if_neg (by omega)], (hpn t ht2).2⟩
  refine (p_s_undo h ht (by omega) hpa hun e).mono (fun v w1 z => ?_)
  rcases z with ⟨z1, z⟩ | ⟨z1, rfl, S1, rfl, hE, hB, hd, hp⟩
  · obtain ⟨rfl, S1, b1, s1, rfl, hE, hB, hd, p1, p2⟩ := z
    obtain ⟨hm1, hA1, r3, r4, r5, r6, r7, hk⟩ := hQ.dd (n' := 0) (s' := 0) (f' := f) him hbh hE dL_C (congrFun (hE.2.2.1 50 n50) 1)
    have e50 : sI S1 50 1 = sI S 50 1 := congrFun (hE.2.2.1 50 n50) 1
    have ha1 : aOk (mA S1) := by rw [hA1]; exact ha.1
    have h421 : mA S1 42 = nI s := by rw [hA1]; exact h42
    refine ⟨S1, rfl, (by exact ⟨_, rfl⟩), hm1, hB.1.1, hB.1.2.1 0 (by decide), (c_m_undo hm1 ha1.v ha1.l ha1.2.2 s h421 hs10 e).mono (fun v' w2 y => ?_)⟩
    obtain ⟨S2, rfl, hE2, y⟩ := y
    rcases y with ⟨y1, -⟩ | ⟨-, rfl, y2⟩
    · exact absurd y1 z1
    · exact ⟨rfl, S2, rfl, deed_no h hQ hu hE dL_C e50 hB (by omega) hd (p2 (fun z => z)) (qt.mE hE2 (fun y w => by simp only [List.mem_cons, List.not_mem_nil, or_false] at w; omega) y2)⟩
  · have hl : ∀ y, y ∈ [57, 55] → dC bh y := fun y w => by simp only [List.mem_cons, List.not_mem_nil, or_false] at w; unfold dC; omega
    have e50 : sI S1 50 1 = sI S 50 1 := congrFun (hE.2.2.1 50 (by decide)) 1
    obtain ⟨hm1, hA1, r3, r4, r5, r6, r7, hk⟩ := hQ.dd (n' := 0) (s' := 0) (f' := f) him hbh hE hl e50
    have ha1 : aOk (mA S1) := by rw [hA1]; exact ha.1
    have h421 : mA S1 42 = nI s := by rw [hA1]; exact h42
    have e0 : 0 ≤ e := Int32.le_trans (by decide) z1.1
    obtain ⟨q, hq, ekq, enq⟩ := in_get (n := s) (by omega) ⟨e0, z1.2⟩
    have q1 : 1 ≤ q := by
      have w := z1.1
      rw [ekq] at w
      exact (nI_leI (a := 1) (by decide) (by omega)).mp w
    have hn := hpa.2.1
    refine ⟨S1, rfl, (by exact ⟨_, rfl⟩), hm1, hB.1.1, hB.1.2.1 0 (by decide), (c_m_undo hm1 ha1.v ha1.l ha1.2.2 s h421 hs10 e).mono (fun v' w2 y => ?_)⟩
    obtain ⟨S2, rfl, hE2, y⟩ := y
    rcases y with ⟨-, rfl, y2⟩ | ⟨y1, -⟩
    · obtain ⟨m1, m2, m3⟩ := m0_step hE2 (fun y w => by simp only [List.mem_cons, List.not_mem_nil, or_false] at w; omega)
      have y3 : mA S2 = mUn (mA S1) (s - cN e) := y2
      rw [hA1] at y3
      have n2 : ∀ y, y < 120 ∨ 121 < y → y ∉ [120, 121] := fun y y1 w => by simp only [List.mem_cons, List.not_mem_nil, or_false] at w; omega
      have c2 : ∀ y, y < 120 ∨ 121 < y → sI S2 y = sI S1 y ∧ sJ S2 y = sJ S1 y := fun y hy => ⟨m1.2.2.1 y (n2 y hy), m1.2.2.2.1 y (n2 y hy)⟩
      have hfar : ∀ j, 1084 ≤ j → mA S2 j = mA S1 j := fun j hj => by
        rw [y3, hA1]
        unfold mUn
        rw [if_neg (by omega), if_neg (by omega)]
      have hB2 : kBd S2 im (mA S2) c b bh nb st st2 (u + 128) := by
        rw [y3]
        exact (hB.rfc m1 (fun y w => by simp only [List.mem_cons, List.not_mem_nil, or_false] at w; omega)).up (by omega)
      refine ⟨rfl, S2, rfl, ⟨im, c, b, bh, nb, st, st2, (n + 10 - cN e) % 10, s - cN e, f, t, tp, hB2, hm1.eq m1, ?_, ⟨hp.eq m1 (fun y h1 h2 => n2 y (by omega)), ?_, fun i hi => ?_⟩, r3.cg (congrFun (c2 50 (by omega)).1 1) (c2 51 (by omega)).1 m3.1 (c2 123 (by omega)).1, r4.cg (c2 72 (by omega)).1 m3.2.1 m3.2.2, fun q hq => (r5 q hq).cg (c2 _ (by omega)).1 (c2 _ (by omega)).2 (c2 142 (by omega)).1 (c2 143 (by omega)).1 (c2 144 (by omega)).2, r6.cg (c2 143 (by omega)).1, fun i hi => ?_⟩, ((gA.sE hE).tr (gA.sE m1)).le (by omega) (by omega), m1.1.trans hE.1⟩
      · rw [y3]; exact hd.eq m1 (n2 _ (by omega))
      · rw [y3]
        unfold mUn
        rw [if_neg (by omega), if_pos rfl]
      · obtain ⟨g1, g2⟩ := hpn i (by omega)
        have eg : ag (mUn (mA S) i) (mUn (mA S2) i) := fun j hj => by
          rw [y3]
          unfold mUn
          by_cases w : 28 ≤ j ∧ j < 28 + 14
          · rw [if_pos w, if_pos w, if_neg (by omega), if_neg (by omega)]
          · rw [if_neg w, if_neg w, if_neg (by omega), if_neg (by omega), if_neg w, if_neg (by omega)]
        refine ⟨eg.good g1, ?_⟩
        rw [eg.row g1.1, ← g2, enq]
        congr 1
        omega
      · have em := mRes_far hfar i
        rcases r7 i hi with ⟨w1, w2⟩ | ⟨w1, dd, w2, w3, w4, w5⟩
        · exact Or.inl ⟨by rw [(c2 122 (by omega)).1]; exact w1, by rw [m1.2.2.2.2.1]; exact w2⟩
        · refine Or.inr ⟨by rw [(c2 122 (by omega)).1]; exact w1, dd, by rw [m1.2.2.2.2.1]; exact w2, ?_, by rw [em]; exact w4, ?_⟩
          · rw [em]
            exact w3.im ((gF.sE m1).im (fun y z w => by have := him y z; simp only [List.mem_cons, List.not_mem_nil, or_false] at w; omega)) (fun _ z => z)
          · rw [em]
            unfold sdE at w5 ⊢
            rw [(c2 (117 + i) (by omega)).1]
            exact w5
    · exact absurd z1 y1
theorem w_perform {G : ab_G} {S : ab_S} {u : Nat} {im : Nat → Prop} {c bh nb st st2 n s t : Nat} {b : Nat → Int32} {f : Nat → sT} {tp : Nat → Nat} (h : kBd S im (mA S) c b bh nb st st2 u) (hQ : sQ S im n s f t tp) (hu : u + 128 < 2 ^ 20) (e : Int32) : two G S u 7 M_s_perform [.ref 50, .int e] 8 M_m_perform [.ref 120, .int e] := by
  have ht := hQ.2.1
  have ha := h.2.2.2.2.1
  have him := h.2.2.2.1.1
  have hbh := h.bh
  obtain ⟨hpa, h42, hpn⟩ := hQ.2.2.1
  have hs10 := hpa.2.2.2.1
  have n50 : 50 ∉ dL bh := fun w => by simp only [dL, List.mem_cons, List.not_mem_nil, or_false] at w; omega
  have R4 := ha.1.R.2
  have hTr := hQ.2.2.2.2.2.1
  have hno : ∀ (S1 S2 : ab_S) (X : Int32) (v' : Option Value), mA S1 = mA S → ¬ X = 0 → pD S1 (some (.int (if X = 0 then nI (aTl (mTf S1 (cN e)) (mTc S1 (cN e)) 0 (mA S1)).1 else X))) (if X = 0 ∧ 0 < (aTl (mTf S1 (cN e)) (mTc S1 (cN e)) 0 (mA S1)).1 then aNd (mA S1) (aTl (mTf S1 (cN e)) (mTc S1 (cN e)) 0 (mA S1)).2.2 s else mA S1) v' (sw S2) → v' = some (.int X) ∧ ∃ S3, sw S2 = sw S3 ∧ qt S1 S3 := fun S1 S2 X v' hA hX y => by
    rw [if_neg hX, if_neg (fun w => hX w.1)] at y
    obtain ⟨y1, S3, y2, y3, y4, y5, y6⟩ := y
    exact ⟨y1, S3, y2, qt.D y5 y4 y6⟩
  refine (p_s_perform h ht (by omega) hpa (fun t ht4 => (hTr t ht4).sz) e).mono (fun v w1 z => ?_)
  rcases z with ⟨z1, z⟩ | ⟨z1, z2, z⟩ | ⟨z1, m, hm, z2, z⟩
  · obtain ⟨rfl, S1, b1, s1, rfl, hE, hB, hd, p1, p2⟩ := z
    obtain ⟨hm1, hA1, r3, r4, r5, r6, r7, hk⟩ := hQ.dd (n' := 0) (s' := 0) (f' := f) him hbh hE dL_C (congrFun (hE.2.2.1 50 n50) 1)
    have e50 : sI S1 50 1 = sI S 50 1 := congrFun (hE.2.2.1 50 n50) 1
    have ha1 : aOk (mA S1) := by rw [hA1]; exact ha.1
    have h421 : mA S1 42 = nI s := by rw [hA1]; exact h42
    refine ⟨S1, rfl, (by exact ⟨_, rfl⟩), hm1, hB.1.1, hB.1.2.1 0 (by decide), (c_m_perform hm1 rfl ha1 r6 s h421 hs10 e).mono (fun v' w2 y => ?_)⟩
    have e2 : mNt S1 e = -2 := if_neg z1
    have w2e : ∃ S2, w2 = sw S2 := by obtain ⟨-, S2, e3, -⟩ := y; exact ⟨S2, e3⟩
    obtain ⟨S2, rfl⟩ := w2e
    obtain ⟨rfl, S3, e4, hq⟩ := hno S1 S2 _ v' hA1 (by rw [e2]; decide) y
    rw [e4]
    exact ⟨by rw [e2], S3, rfl, deed_no h hQ hu hE dL_C e50 hB (by omega) hd (p2 (fun z => z)) hq⟩
  · obtain ⟨rfl, S1, b1, s1, rfl, hE, hB, hd, p1, p2⟩ := z
    obtain ⟨hm1, hA1, r3, r4, r5, r6, r7, hk⟩ := hQ.dd (n' := 0) (s' := 0) (f' := f) him hbh hE dL_C (congrFun (hE.2.2.1 50 n50) 1)
    have e50 : sI S1 50 1 = sI S 50 1 := congrFun (hE.2.2.1 50 n50) 1
    have ha1 : aOk (mA S1) := by rw [hA1]; exact ha.1
    have h421 : mA S1 42 = nI s := by rw [hA1]; exact h42
    refine ⟨S1, rfl, (by exact ⟨_, rfl⟩), hm1, hB.1.1, hB.1.2.1 0 (by decide), (c_m_perform hm1 rfl ha1 r6 s h421 hs10 e).mono (fun v' w2 y => ?_)⟩
    have e2 : mNt S1 e = -6 := (congrFun (mNt_cg hk).1 e).trans ((if_pos z1).trans (if_pos ((hTr _ (cN3 z1)).cs.1 z2)))
    have w2e : ∃ S2, w2 = sw S2 := by obtain ⟨-, S2, e3, -⟩ := y; exact ⟨S2, e3⟩
    obtain ⟨S2, rfl⟩ := w2e
    obtain ⟨rfl, S3, e4, hq⟩ := hno S1 S2 _ v' hA1 (by rw [e2]; decide) y
    rw [e4]
    exact ⟨by rw [e2], S3, rfl, deed_no h hQ hu hE dL_C e50 hB (by omega) hd (p2 (fun z => z)) hq⟩
  · obtain ⟨rfl, S1, b1, s1, rfl, hE, hB, hd, p1, p2⟩ := z
    obtain ⟨hm1, hA1, r3, r4, r5, r6, r7, hk⟩ := hQ.dd (n' := 0) (s' := 0) (f' := f) him hbh hE dL_C (congrFun (hE.2.2.1 50 n50) 1)
    have e50 : sI S1 50 1 = sI S 50 1 := congrFun (hE.2.2.1 50 n50) 1
    have ha1 : aOk (mA S1) := by rw [hA1]; exact ha.1
    have h421 : mA S1 42 = nI s := by rw [hA1]; exact h42
    obtain ⟨d1, d2, d3⟩ := (hTr _ (cN3 z1)).cs.2 m hm z2
    have e2 : mNt S1 e = 0 := (congrFun (mNt_cg hk).1 e).trans ((if_pos z1).trans (if_neg d1))
    have ec : mTc S1 (cN e) = m := (congrFun (mNt_cg hk).2.1 (cN e)).trans d2
    have ef : mTf S1 (cN e) = mTf S (cN e) := congrFun (mNt_cg hk).2.2 (cN e)
    have eT : aTl (sJ S (110 + 2 * cN e)) m 0 (mA S) = aTl (mTf S (cN e)) m 0 (mA S) := aTl_c4 m 0 _ (fun i _ hi => d3 i (by omega))
    refine ⟨S1, rfl, (by exact ⟨_, rfl⟩), hm1, hB.1.1, hB.1.2.1 0 (by decide), (c_m_perform hm1 rfl ha1 r6 s h421 hs10 e).mono (fun v' w2 y => ?_)⟩
    rw [if_pos e2, ec, ef, hA1, ← eT] at y
    obtain ⟨rfl, S2, rfl, y3, y4, y5, y6⟩ := y
    have hT := aTl_ok (f := sJ S (110 + 2 * cN e)) m 0 (mA S) ha.1
    by_cases w : 0 < (aTl (sJ S (110 + 2 * cN e)) m 0 (mA S)).1
    · rw [if_pos ⟨e2, w⟩] at y4
      exact ⟨rfl, S2, rfl, deed_yes h hQ hu hE dL_C e50 hB (by omega) hd (p1 w) hT.2.2.1 y5 (fun y hy => by have := qD_in y hy; omega) y6 y4⟩
    · rw [if_neg (fun x => w x.2)] at y4
      have eX := aTl_0 m 0 (mA S) (show (aTl (sJ S (110 + 2 * cN e)) m 0 (mA S)).1 = 0 by omega)
      rw [eX] at hB hd
      exact ⟨rfl, S2, rfl, deed_no h hQ hu hE dL_C e50 hB (by omega) hd (p2 w) (qt.D y5 (y4.trans hA1.symm) y6)⟩
theorem w_journey {G : ab_G} {S : ab_S} {u : Nat} {im : Nat → Prop} {c bh nb st st2 n s t : Nat} {b : Nat → Int32} {f : Nat → sT} {tp : Nat → Nat} (h : kBd S im (mA S) c b bh nb st st2 u) (hQ : sQ S im n s f t tp) (hu : u + 128 < 2 ^ 20) (x e : Int32) : two G S u 7 M_s_journey [.ref 50, .int x, .int e] 7 M_m_journey [.ref 120, .int x, .int e] := by
  have ht := hQ.2.1
  have ha := h.2.2.2.2.1
  have him := h.2.2.2.1.1
  have hbh := h.bh
  obtain ⟨hpa, h42, hpn⟩ := hQ.2.2.1
  have hs10 := hpa.2.2.2.1
  have n50 : 50 ∉ dL bh := fun w => by simp only [dL, List.mem_cons, List.not_mem_nil, or_false] at w; omega
  have R4 := ha.1.R.2
  refine (p_s_journey h ht (by omega) hpa x e).mono (fun v w1 z => ?_)
  rcases z with ⟨z1, z⟩ | ⟨z1, rfl, S1, b1, s1, rfl, hE, e50a, hB, hd, p1, p2⟩
  · obtain ⟨rfl, S1, b1, s1, rfl, hE, hB, hd, p1, p2⟩ := z
    obtain ⟨hm1, hA1, r3, r4, r5, r6, r7, hk⟩ := hQ.dd (n' := 0) (s' := 0) (f' := f) him hbh hE dL_C (congrFun (hE.2.2.1 50 n50) 1)
    have e50 : sI S1 50 1 = sI S 50 1 := congrFun (hE.2.2.1 50 n50) 1
    have ha1 : aOk (mA S1) := by rw [hA1]; exact ha.1
    have h421 : mA S1 42 = nI s := by rw [hA1]; exact h42
    refine ⟨S1, rfl, (by exact ⟨_, rfl⟩), hm1, hB.1.1, hB.1.2.1 0 (by decide), (c_m_journey hm1 rfl ha1 s h421 hs10 x e).mono (fun v' w2 y => ?_)⟩
    rw [if_neg z1, if_neg (fun w => z1 w.1)] at y
    obtain ⟨rfl, S2, rfl, y3, y4, y5, y6⟩ := y
    exact ⟨rfl, S2, rfl, deed_no h hQ hu hE dL_C e50 hB (by omega) hd (p2 (fun z => z)) (qt.D y5 y4 y6)⟩
  · have hl : ∀ y, y ∈ (50 :: dL bh) → dC bh y := fun y w => by
      rcases List.mem_cons.mp w with w | w
      · exact Or.inl w
      · exact dL_C y w
    have e50 := e50a 1 (by decide)
    obtain ⟨hm1, hA1, r3, r4, r5, r6, r7, hk⟩ := hQ.dd (n' := 0) (s' := 0) (f' := f) him hbh hE hl e50
    have ha1 : aOk (mA S1) := by rw [hA1]; exact ha.1
    have h421 : mA S1 42 = nI s := by rw [hA1]; exact h42
    refine ⟨S1, rfl, (by exact ⟨_, rfl⟩), hm1, hB.1.1, hB.1.2.1 0 (by decide), (c_m_journey hm1 rfl ha1 s h421 hs10 x e).mono (fun v' w2 y => ?_)⟩
    rw [if_pos z1, hA1] at y
    obtain ⟨rfl, S2, rfl, y3, y4, y5, y6⟩ := y
    have hJ := aJo_ok ha.1 x (cN e)
    by_cases w : 0 < (aJo (mA S) x (cN e)).1
    · rw [if_pos ⟨z1, w⟩] at y4
      exact ⟨rfl, S2, rfl, deed_yes h hQ hu hE hl e50 hB (by omega) hd (p1 w) hJ.2.2.1 y5 (fun y hy => by have := qD_in y hy; omega) y6 y4⟩
    · rw [if_neg (fun x => w x.2)] at y4
      have eX := hJ.2.2.2.2 (by omega)
      rw [eX] at hB hd
      exact ⟨rfl, S2, rfl, deed_no h hQ hu hE hl e50 hB (by omega) hd (p2 w) (qt.D y5 (y4.trans hA1.symm) y6)⟩
