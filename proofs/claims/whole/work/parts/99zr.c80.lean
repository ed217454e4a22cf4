/-! ===== images, the text ===== -/
theorem mImg_ag {a : Nat → Int32} (q : Nat) : ag a (mImg a q) := fun j hj => if_neg (by omega)
theorem mUn_ag {a a' : Nat → Int32} (h : ∀ j, j < 1084 → a' j = a j) {i : Nat} (hi : i < 10) : ag (mUn a i) (mUn a' i) := fun j hj => by
  unfold mUn
  by_cases z : 28 ≤ j ∧ j < 28 + 14
  · rw [if_pos z, if_pos z]; exact h _ (by omega)
  · rw [if_neg z, if_neg z, if_neg (by omega), if_neg (by omega)]
    exact h j (by omega)
theorem pst_ag {S S' : ab_S} {n s : Nat} {f : Nat → sT} (h : pstQ S n s f) (hp : paI S' n s f) (hA : ∀ j, j < 1084 → mA S' j = mA S j) : pstQ S' n s f := by
  obtain ⟨h1, h2, h3⟩ := h
  have hs := h1.2.2.2.1
  refine ⟨hp, (hA 42 (by decide)).trans h2, fun i hi => ?_⟩
  obtain ⟨g1, g2⟩ := h3 i hi
  have e := mUn_ag hA (i := i) (by omega)
  exact ⟨e.good g1, by rw [e.row g1.1]; exact g2⟩
theorem mRes_img {a : Nat → Int32} {q : Nat} : ag a (mRes (mImg a q) q) := fun j hj => by
  unfold mRes mImg
  rw [if_neg (by omega), if_pos (by omega), if_pos (by omega), show 1084 * (q + 1) + j - 1084 * (q + 1) = j by omega]
theorem mRes_oth {a : Nat → Int32} {q i : Nat} (hne : i ≠ q) : ag (mRes a i) (mRes (mImg a q) i) := fun j hj => by
  unfold mRes mImg
  rw [if_neg (by omega), if_pos (by omega), if_neg (by omega), if_neg (by omega), if_pos (by omega)]
theorem mRes_far {a a' : Nat → Int32} (h : ∀ j, 1084 ≤ j → a' j = a j) (i : Nat) : mRes a' i = mRes a i := by
  funext j
  unfold mRes
  by_cases z : j = 42
  · rw [if_pos z, if_pos z]
  · rw [if_neg z, if_neg z]
    by_cases y : j < 1084
    · rw [if_pos y, if_pos y]; exact h _ (by omega)
    · rw [if_neg y, if_neg y]; exact h _ (by omega)
theorem w_image {G : ab_G} {S : ab_S} {u : Nat} {im : Nat → Prop} {c bh nb st st2 n s t : Nat} {b : Nat → Int32} {f : Nat → sT} {tp : Nat → Nat} (h : kBd S im (mA S) c b bh nb st st2 u) (hQ : sQ S im n s f t tp) (hu : u + 128 < 2 ^ 20) (e : Int32) : two G S u 7 M_s_image [.ref 50, .int e] 1 M_m_image [.ref 120, .int e] := by
  have ht := hQ.2.1
  have ha := h.2.2.2.2.1
  have him := h.2.2.2.1.1
  refine (p_s_image h ht (by omega) e).mono (fun v w1 z => ?_)
  rcases z with ⟨z1, z⟩ | ⟨z1, rfl, S1, rfl, g, ns, zs, p1, p2, d1, hB, hd⟩
  · refine no_ask h hQ hu (by exact ⟨_, rfl⟩) (by omega) (by omega) z (fun S1 hm1 _ _ _ => (c_m_image hm1 e).mono (fun v' w2 y => ?_))
    obtain ⟨S2, rfl, -, y⟩ := y
    rcases y with ⟨y1, -⟩ | ⟨-, rfl, rfl⟩
    · exact absurd y1 z1
    · exact ⟨rfl, _, rfl, qt_m0⟩
  · have hq : cN e < 2 := by
      obtain ⟨q, hq, -, e2⟩ := in_get (n := 1) (by decide) z1
      omega
    obtain ⟨q1, q2, q3, q4, q5, q6, q7, q8⟩ := hQ
    have hn := q1.1
    have c1 : ∀ y, y < 145 → y ≠ 70 → y ≠ 117 + cN e → sI S1 y = sI S y ∧ sJ S1 y = sJ S y ∧ sP S1 y = sP S y := fun y h1 h2 h3 => g.2.2.2 y (by omega) (fun w => by have w : y = 70 ∨ y = 117 + cN e := w; omega)
    have hm1 : mSh S1 := q1.gf g (fun y h1 h2 w => by have w : y = 70 ∨ y = 117 + cN e := w; omega)
    have hA1 : mA S1 = mA S := (c1 121 (by decide) (by decide) (by omega)).1
    refine ⟨S1, rfl, (by exact ⟨_, rfl⟩), hm1, hB.1.1, hB.1.2.1 0 (by decide), (c_m_image hm1 e).mono (fun v' w2 y => ?_)⟩
    obtain ⟨S2, rfl, hE2, y⟩ := y
    rcases y with ⟨-, rfl, w1, w2⟩ | ⟨y1, -⟩
    · have hE : sEq [120, 121, 122] S1 S2 := (m0_S.mono (by decide)).tr (hE2.mono (by decide))
      have n2 : ∀ y, y < 120 ∨ 122 < y → y ∉ [120, 121, 122] := fun y h1 w => by simp only [List.mem_cons, List.not_mem_nil, or_false] at w; omega
      have c2 : ∀ y, y < 120 ∨ 122 < y → sI S2 y = sI S1 y ∧ sJ S2 y = sJ S1 y := fun y h1 => ⟨hE.2.2.1 y (n2 y h1), hE.2.2.2.1 y (n2 y h1)⟩
      have e120 : ∀ k, k ≠ 0 → sI S2 120 k = sI S 120 k := fun k hk => by
        rw [hE2.2.2.1 120 (by decide)]
        exact (gI_k hk).trans (congrFun (c1 120 (by decide) (by decide) (by omega)).1 k)
      have hA2 : mA S2 = mImg (mA S) (cN e) := w1.trans (by rw [show mA (m0 S1) = mA S1 from rfl, hA1])
      have hlow : ∀ j, j < 1084 → mA S2 j = mA S j := fun j hj => by rw [hA2]; exact if_neg (by omega)
      have hag : ag (mA S) (mA S2) := by rw [hA2]; exact mImg_ag _
      have i122 : sI S2 122 = up1 (sI S 122) (cN e) 1 := w2.trans (by rw [show sI (m0 S1) 122 = sI S1 122 from rfl, (c1 122 (by decide) (by decide) (by omega)).1])
      have hB2 := ((hB.rfc hE (fun y w => by simp only [List.mem_cons, List.not_mem_nil, or_false] at w; omega)).agr hag).up (show u ≤ u + 128 by omega)
      have cc : ∀ y, y < 120 → y ≠ 70 → y ≠ 117 + cN e → sI S2 y = sI S y ∧ sJ S2 y = sJ S y := fun y h1 h2 h3 => ⟨(c2 y (by omega)).1.trans (c1 y (by omega) h2 h3).1, (c2 y (by omega)).2.trans (c1 y (by omega) h2 h3).2.1⟩
      have hpa : paI S2 n s f := (q3.1.gf g (by omega) (fun y h1 h2 w => by have w : y = 70 ∨ y = 117 + cN e := w; omega)).eq hE (fun y h1 h2 => n2 y (by omega))
      have hiE : imE im S S2 := ⟨by rw [hE.2.2.2.2.2.1, ns]; exact Nat.le_refl _, fun y y1 y2 => by
        have e1 := him y y1
        have g2 := g.2.2.2 y y2 (fun w => by have w : y = 70 ∨ y = 117 + cN e := w; omega)
        exact ⟨by rw [hE.2.1]; exact g.2.2.1 y y2, (hE.2.2.1 y (n2 y (by omega))).trans g2.1, by rw [hE.2.2.2.2.1]; exact g2.2.2⟩⟩
      have p70 : sP S2 70 = sP S1 70 := by rw [hE.2.2.2.2.1]
      have r144 : ∀ y, 122 < y → y ≤ 144 → sI S2 y = sI S y ∧ sJ S2 y = sJ S y := fun y h1 h2 => ⟨(c2 y (by omega)).1.trans (c1 y (by omega) (by omega) (by omega)).1, (c2 y (by omega)).2.trans (c1 y (by omega) (by omega) (by omega)).2.1⟩
      have hca : caI S2 im c (mA S) := by
        obtain ⟨-, -, -, -, -, -, ⟨-, sb, cl, -⟩, -⟩ := h
        exact (cl.1.sta sb.sy).im hiE (fun _ z => z)
      refine ⟨rfl, S2, rfl, ⟨im, c, tl b (mA S2), bh, nb, st, st2, n, s, f, t, tp, hB2, hm1.eq hE, ?_, pst_ag q3 hpa hlow, q4.cg (congrFun (cc 50 (by omega) (by omega) (by omega)).1 1) (cc 51 (by omega) (by omega) (by omega)).1 (e120 5 (by decide)) (r144 123 (by decide) (by decide)).1, q5.cg (cc 72 (by omega) (by omega) (by omega)).1 (e120 13 (by decide)) (e120 14 (by decide)), fun q hq2 => (q6 q hq2).cg (cc _ (by omega) (by omega) (by omega)).1 (cc _ (by omega) (by omega) (by omega)).2 (r144 142 (by decide) (by decide)).1 (r144 143 (by decide) (by decide)).1 (r144 144 (by decide) (by decide)).2, q7.cg (r144 143 (by decide) (by decide)).1, fun i hi => ?_⟩, ?_, hE.1.trans g.1⟩
      · rw [hag.row ha.1]; exact hd.eq hE (n2 _ (by omega))
      · by_cases eq : i = cN e
        · rw [eq]
          have eg : ag (mA S) (mRes (mA S2) (cN e)) := by rw [hA2]; exact mRes_img
          refine Or.inr ⟨by rw [i122, up1_s]; decide, c, by rw [p70]; exact p1, hca.agr eg ha.1, eg.good ha, ?_⟩
          rw [eg.row ha.1]
          exact d1.eq hE (n2 _ (by omega))
        · rcases q8 i hi with ⟨r1, r2⟩ | ⟨r1, d, r2, r3, r4, r5⟩
          · exact Or.inl ⟨by rw [i122, up1_o eq]; exact r1, by rw [p70, p2 i eq]; exact r2⟩
          · have eg : ag (mRes (mA S) i) (mRes (mA S2) i) := by rw [hA2]; exact mRes_oth eq
            refine Or.inr ⟨by rw [i122, up1_o eq]; exact r1, d, by rw [p70, p2 i eq]; exact r2, (r3.im hiE (fun _ z => z)).agr eg r4.1, eg.good r4, ?_⟩
            rw [eg.row r4.1]
            unfold sdE at r5 ⊢
            rw [(cc (117 + i) (by omega) (by omega) (by omega)).1]
            exact r5
      · have hg0 : gA S S1 0 0 := gA.fr h g (c1 50 (by omega) (by omega) (by omega)).2.2 (c1 84 (by omega) (by omega) (by omega)).2.2 (by omega) (by omega)
        exact (hg0.tr (gA.sE hE)).le (by omega) (by omega)
    · exact absurd z1 y1
theorem w_restore {G : ab_G} {S : ab_S} {u : Nat} {im : Nat → Prop} {c bh nb st st2 n s t : Nat} {b : Nat → Int32} {f : Nat → sT} {tp : Nat → Nat} (h : kBd S im (mA S) c b bh nb st st2 u) (hQ : sQ S im n s f t tp) (hu : u + 128 < 2 ^ 20) (e : Int32) : two G S u 7 M_s_restore [.ref 50, .int e] 1 M_m_restore [.ref 120, .int e] := by
  have ht := hQ.2.1
  have ha := h.2.2.2.2.1
  have him := h.2.2.2.1.1
  have hin : (0 ≤ e ∧ e ≤ 1) → cN e < 2 := fun z => by
    obtain ⟨q, hq, -, e2⟩ := in_get (n := 1) (by decide) z
    omega
  obtain ⟨d, hI⟩ : ∃ d, (0 ≤ e ∧ e ≤ 1) → sP S 70 (cN e) = none ∨ (sP S 70 (cN e) = some d ∧ caI S im d (mRes (mA S) (cN e)) ∧ aGood (mRes (mA S) (cN e)) ∧ sdE S (117 + cN e) (rowT (mRes (mA S) (cN e)))) := by
    by_cases z : 0 ≤ e ∧ e ≤ 1
    · rcases hQ.2.2.2.2.2.2.2 (cN e) (hin z) with ⟨r1, r2⟩ | ⟨r1, d, r2, r3, r4, r5⟩
      · exact ⟨0, fun _ => Or.inl r2⟩
      · exact ⟨d, fun _ => Or.inr ⟨r2, r3, r4, r5⟩⟩
    · exact ⟨0, fun w => absurd w z⟩
  refine (p_s_restore h ht (by omega) hQ.2.2.1.1 e hI).mono (fun v w1 z => ?_)
  rcases z with ⟨z1, z⟩ | ⟨z1, z2, z⟩ | ⟨z1, z2, rfl, S1, bh', nb', b1, rfl, g, i50, p50, hG, hB, hp, hd⟩
  · refine no_ask h hQ hu (by exact ⟨_, rfl⟩) (by omega) (by omega) z (fun S1 hm1 _ _ _ => (c_m_restore hm1 e).mono (fun v' w2 y => ?_))
    obtain ⟨S2, rfl, -, y⟩ := y
    rcases y with ⟨y1, -⟩ | ⟨y1, -⟩ | ⟨-, rfl, rfl⟩
    · exact absurd y1 z1
    · exact absurd y1 z1
    · exact ⟨rfl, _, rfl, qt_m0⟩
  · refine no_ask h hQ hu (by exact ⟨_, rfl⟩) (by omega) (by omega) z (fun S1 hm1 _ _ hk => (c_m_restore hm1 e).mono (fun v' w2 y => ?_))
    obtain ⟨S2, rfl, -, y⟩ := y
    have r1 : sI S 122 (cN e) = 0 := by
      rcases hQ.2.2.2.2.2.2.2 (cN e) (hin z1) with ⟨r1, r2⟩ | ⟨r1, d, r2, -⟩
      · exact r1
      · rw [z2] at r2; cases r2
    rcases y with ⟨-, y1, -⟩ | ⟨-, -, rfl, rfl⟩ | ⟨y1, -⟩
    · exact absurd ((congrFun (hk 122 (by decide) (by decide)).1 _).trans r1) y1
    · exact ⟨rfl, _, rfl, qt_m0⟩
    · exact absurd z1 y1
  · obtain ⟨q1, q2, q3, q4, q5, q6, q7, q8⟩ := hQ
    have hq := hin z1
    have hn := q1.1
    have c1 : ∀ y, y < 145 → y ≠ 50 → y ≠ 55 → y ≠ 57 → y ≠ 84 → y ≠ 94 → sI S1 y = sI S y ∧ sJ S1 y = sJ S y ∧ sP S1 y = sP S y := fun y h1 a1 a2 a3 a4 a5 => g.2.2.2 y (by omega) (fun w => by have w : y = 50 ∨ y = 55 ∨ y = 57 ∨ y = 84 ∨ y = 94 := w; omega)
    have hm1 : mSh S1 := q1.gf g (fun y h1 h2 w => by have w : y = 50 ∨ y = 55 ∨ y = 57 ∨ y = 84 ∨ y = 94 := w; omega)
    have hA1 : mA S1 = mA S := (c1 121 (by decide) (by decide) (by decide) (by decide) (by decide) (by decide)).1
    have n122 : ¬ sI S 122 (cN e) = 0 := by
      rcases q8 (cN e) hq with ⟨r1, r2⟩ | ⟨r1, -⟩
      · rw [z2] at r2; cases r2
      · exact r1
    refine ⟨S1, rfl, (by exact ⟨_, rfl⟩), hm1, hB.1.1, hB.1.2.1 0 (by decide), (c_m_restore hm1 e).mono (fun v' w2 y => ?_)⟩
    obtain ⟨S2, rfl, hE2, y⟩ := y
    have f122 : sI (m0 S1) 122 (cN e) = sI S 122 (cN e) := congrFun (c1 122 (by decide) (by decide) (by decide) (by decide) (by decide) (by decide)).1 _
    rcases y with ⟨-, -, rfl, w1⟩ | ⟨-, y1, -⟩ | ⟨y1, -⟩
    · have hE : sEq [120, 121] S1 S2 := (m0_S.mono (by decide)).tr (hE2.mono (by decide))
      have n2 : ∀ y, y < 120 ∨ 121 < y → y ∉ [120, 121] := fun y h1 w => by simp only [List.mem_cons, List.not_mem_nil, or_false] at w; omega
      have c2 : ∀ y, y < 120 ∨ 121 < y → sI S2 y = sI S1 y ∧ sJ S2 y = sJ S1 y := fun y h1 => ⟨hE.2.2.1 y (n2 y h1), hE.2.2.2.1 y (n2 y h1)⟩
      have e120 : ∀ k, k ≠ 0 → sI S2 120 k = sI S 120 k := fun k hk => by
        rw [hE2.2.2.1 120 (by decide)]
        exact (gI_k hk).trans (congrFun (c1 120 (by decide) (by decide) (by decide) (by decide) (by decide) (by decide)).1 k)
      have hA2 : mA S2 = mRes (mA S) (cN e) := w1.trans (by rw [show mA (m0 S1) = mA S1 from rfl, hA1])
      have hfar : ∀ j, 1084 ≤ j → mA S2 j = mA S j := fun j hj => by
        rw [hA2]
        unfold mRes
        rw [if_neg (by omega), if_neg (by omega)]
      have cc : ∀ y, y < 145 → y ≠ 50 → y ≠ 55 → y ≠ 57 → y ≠ 84 → y ≠ 94 → y ≠ 120 → y ≠ 121 → sI S2 y = sI S y ∧ sJ S2 y = sJ S y := fun y a0 a1 a2 a3 a4 a5 a6 a7 => ⟨(c2 y (by omega)).1.trans (c1 y a0 a1 a2 a3 a4 a5).1, (c2 y (by omega)).2.trans (c1 y a0 a1 a2 a3 a4 a5).2.1⟩
      have hB2 : kBd S2 im (mA S2) d b1 bh' nb' (st + 1) (st2 + 1) (u + 128) := by
        rw [hA2]
        exact (hB.rfc hE (fun y w => by simp only [List.mem_cons, List.not_mem_nil, or_false] at w; omega)).up (by omega)
      have hiE : imE im S S2 := ⟨by rw [hE.2.2.2.2.2.1]; exact g.2.1, fun y y1 y2 => by
        have e1 := him y y1
        have g2 := g.2.2.2 y y2 (fun w => by have w : y = 50 ∨ y = 55 ∨ y = 57 ∨ y = 84 ∨ y = 94 := w; omega)
        exact ⟨by rw [hE.2.1]; exact g.2.2.1 y y2, (hE.2.2.1 y (n2 y (by omega))).trans g2.1, by rw [hE.2.2.2.2.1]; exact g2.2.2⟩⟩
      have C : ∀ y, y < 145 → (y = 51 ∨ y = 72 ∨ (109 ≤ y ∧ y ≤ 118) ∨ 121 < y) → sI S2 y = sI S y ∧ sJ S2 y = sJ S y := fun y a0 a1 => cc y a0 (by omega) (by omega) (by omega) (by omega) (by omega) (by omega) (by omega)
      have p70 : sP S2 70 = sP S 70 := by rw [hE.2.2.2.2.1]; exact (c1 70 (by decide) (by decide) (by decide) (by decide) (by decide) (by decide)).2.2
      refine ⟨rfl, S2, rfl, ⟨im, d, b1, bh', nb', st + 1, st2 + 1, n, 0, f, t, tp, hB2, hm1.eq hE, ?_, ⟨hp.eq hE (fun y h1 h2 => n2 y (by omega)), ?_, fun i hi => absurd hi (Nat.not_lt_zero i)⟩, q4.cg ?_ (C 51 (by omega) (by omega)).1 (e120 5 (by decide)) (C 123 (by omega) (by omega)).1, q5.cg (C 72 (by omega) (by omega)).1 (e120 13 (by decide)) (e120 14 (by decide)), fun q hq2 => (q6 q hq2).cg (C _ (by omega) (by omega)).1 (C _ (by omega) (by omega)).2 (C 142 (by omega) (by omega)).1 (C 143 (by omega) (by omega)).1 (C 144 (by omega) (by omega)).2, q7.cg (C 143 (by omega) (by omega)).1, fun i hi => ?_⟩, (hG.tr (gA.sE hE)).le (by omega) (by omega), hE.1.trans g.1⟩
      · rw [hA2]; exact hd.eq hE (n2 _ (by omega))
      · rw [hA2]; rfl
      · rw [(c2 50 (by omega)).1, i50]
      · have em := mRes_far hfar i
        rcases q8 i hi with ⟨r1, r2⟩ | ⟨r1, dd, r2, r3, r4, r5⟩
        · exact Or.inl ⟨by rw [(C 122 (by omega) (by omega)).1]; exact r1, by rw [p70]; exact r2⟩
        · refine Or.inr ⟨by rw [(C 122 (by omega) (by omega)).1]; exact r1, dd, by rw [p70]; exact r2, by rw [em]; exact r3.im hiE (fun _ z => z), by rw [em]; exact r4, ?_⟩
          rw [em]
          unfold sdE at r5 ⊢
          rw [(C (117 + i) (by omega) (by omega)).1]
          exact r5
    · exact absurd (f122.symm.trans y1) n122
    · exact absurd z1 y1
theorem w_train {G : ab_G} {S : ab_S} {u : Nat} {im : Nat → Prop} {c bh nb st st2 n s t : Nat} {b : Nat → Int32} {f : Nat → sT} {tp : Nat → Nat} (h : kBd S im (mA S) c b bh nb st st2 u) (hQ : sQ S im n s f t tp) (hu : u + 128 < 2 ^ 20) (e : Int32) : two G S u 104 M_s_train [.ref 50, .int e] 82 M_m_train [.ref 120, .int e] := by
  have ht := hQ.2.1
  have ha := h.2.2.2.2.1
  have him := h.2.2.2.1.1
  have hQ0 := hQ
  obtain ⟨q1, q2, q3, ⟨t1, t2, t3, t4, t5⟩, q5, q6, q7, q8⟩ := hQ0
  obtain ⟨k1, k2⟩ := h.bh
  have hn := q1.1
  have hF0 : ∀ j, j < 1084 → (fun j => if j < 1084 then (0 : Int32) else sI S 124 j) j = 0 := fun j hj => if_pos hj
  refine (p_s_train h ht (by omega) q3.1 t1 t2 t4 q5.2.2 hF0 e).mono (fun v w1 z => ?_)
  rcases z with ⟨z1, z⟩ | ⟨z1, z⟩
  · refine no_ask h hQ hu (by exact ⟨_, rfl⟩) (by omega) (by omega) z (fun S1 hm1 _ hQ1 _ => (c_m_trainN hm1 t1 hQ1.2.2.2.1.2.2.1 e (fun w => z1 ⟨w.1, ?_⟩)).mono (fun v' w2 y => ?_))
    · have w2 := w.2
      rw [nI_cN w.1] at w2
      exact (nI_leI (by have := cN_31 e; omega) (by omega)).mp w2
    · obtain ⟨rfl, rfl⟩ := y
      exact ⟨rfl, _, rfl, qt_m0⟩
  · obtain ⟨q, ekq, enq⟩ : ∃ q, e = nI q ∧ cN e = q := ⟨cN e, nI_cN z1.1, rfl⟩
    have hqt : q ≤ t := by rw [← enq]; exact z1.2
    rw [enq] at z
    have eA : ∀ S1 : ab_S, ab_C G 82 M_m_train [.ref 120, .int e] (sw S1) = ab_C G 82 M_m_train [.ref 120, .int (nI q)] (sw S1) := fun S1 => by rw [ekq]
    rcases hX : trn tp q (fun j => if j < 1084 then (0 : Int32) else sI S 124 j) with er | y
    · rw [hX] at z
      obtain ⟨rfl, S1, rfl, g, ⟨l1, l2, l3, l4, l5, l6⟩, p50, hB, hd⟩ := z
      have c1 : ∀ y, y < 145 → y ≠ 50 → y ≠ 72 → y ≠ 77 → sI S1 y = sI S y ∧ sJ S1 y = sJ S y ∧ sP S1 y = sP S y := fun y h1 a1 a2 a3 => g.2.2.2 y (by omega) (fun w => by have w : y = 50 ∨ y = 72 ∨ y = 77 := w; omega)
      have hm1 : mSh S1 := q1.gf g (fun y h1 h2 w => by have w : y = 50 ∨ y = 72 ∨ y = 77 := w; omega)
      have hA1 : mA S1 = mA S := (c1 121 (by decide) (by decide) (by decide) (by decide)).1
      have hr1 : rT S1 tp := fun i hi => by rw [(c1 123 (by decide) (by decide) (by decide) (by decide)).1]; exact t5 i hi
      have e124 := (c1 124 (by decide) (by decide) (by decide) (by decide)).1
      have e120 := (c1 120 (by decide) (by decide) (by decide) (by decide)).1
      refine ⟨S1, rfl, (by exact ⟨_, rfl⟩), hm1, hB.1.1, hB.1.2.1 0 (by decide), ?_⟩
      rw [eA S1]
      refine (c_m_train hm1 hB.2.2.1 hr1 t1 (by rw [e120]; exact t3) q hqt).mono (fun v' w2 y => ?_)
      rw [e124, hX] at y
      obtain ⟨S2, rfl, m1, m2, m3, rfl, m4, m5, m6⟩ := y
      have n2 : ∀ y, y ≠ 120 → y ≠ 121 → y ≠ 124 → y ∉ [120, 121, 124] := fun y a1 a2 a3 w => by simp only [List.mem_cons, List.not_mem_nil, or_false] at w; omega
      have c2 : ∀ y, y ≠ 120 → y ≠ 121 → y ≠ 124 → sI S2 y = sI S1 y ∧ sJ S2 y = sJ S1 y := fun y a1 a2 a3 => ⟨m2.2.2.1 y (n2 y a1 a2 a3), m2.2.2.2.1 y (n2 y a1 a2 a3)⟩
      have hA2 : mA S2 = mA S := m4.trans hA1
      have C : ∀ y, y < 145 → y ≠ 50 → y ≠ 72 → y ≠ 77 → y ≠ 120 → y ≠ 121 → y ≠ 124 → sI S2 y = sI S y ∧ sJ S2 y = sJ S y := fun y a0 a1 a2 a3 a4 a5 a6 => ⟨(c2 y a4 a5 a6).1.trans (c1 y a0 a1 a2 a3).1, (c2 y a4 a5 a6).2.trans (c1 y a0 a1 a2 a3).2.1⟩
      have hB2 : kBd S2 im (mA S2) c b bh nb st st2 (u + 128) := by
        rw [hA2]
        exact (hB.rfc m2 (fun y w => by simp only [List.mem_cons, List.not_mem_nil, or_false] at w; omega)).up (by omega)
      have hpa : paI S2 n s f := (q3.1.gf g (by omega) (fun y h1 h2 w => by have w : y = 50 ∨ y = 72 ∨ y = 77 := w; omega)).eq m2 (fun y h1 h2 => n2 y (by omega) (by omega) (by omega))
      have e72 := (c2 72 (by decide) (by decide) (by decide)).1
      refine ⟨rfl, S2, rfl, ⟨im, c, b, bh, nb, st, st2, n, s, f, 0, tp, hB2, m1, ?_, q3.cg hpa hA2, ⟨by omega, (congrFun (c2 50 (by decide) (by decide) (by decide)).1 1).trans l1, m3, fun i hi => ?_, fun i hi => ?_⟩, ⟨?_, ?_, ?_⟩, fun q hq2 => (q6 q hq2).cg (C _ (by omega) (by omega) (by omega) (by omega) (by omega) (by omega) (by omega)).1 (C _ (by omega) (by omega) (by omega) (by omega) (by omega) (by omega) (by omega)).2 (C 142 (by omega) (by omega) (by omega) (by omega) (by omega) (by omega) (by omega)).1 (C 143 (by omega) (by omega) (by omega) (by omega) (by omega) (by omega) (by omega)).1 (C 144 (by omega) (by omega) (by omega) (by omega) (by omega) (by omega) (by omega)).2, q7.cg (C 143 (by omega) (by omega) (by omega) (by omega) (by omega) (by omega) (by omega)).1, fun i hi => (q8 i hi).cg hA2 (C 122 (by omega) (by omega) (by omega) (by omega) (by omega) (by omega) (by omega)).1 ?_ (C _ (by omega) (by omega) (by omega) (by omega) (by omega) (by omega) (by omega)).1 ?_⟩, (l6.tr (gA.sE m2)).le (by omega) (by omega), m2.1.trans g.1⟩
      · rw [hA2]; exact hd.eq m2 (n2 _ (by decide) (by decide) (by decide))
      · rw [(C 51 (by omega) (by omega) (by omega) (by omega) (by omega) (by omega) (by omega)).1]; exact t4 i hi
      · rw [(C 123 (by omega) (by omega) (by omega) (by omega) (by omega) (by omega) (by omega)).1]; exact t5 i hi
      · rw [e72, m5]; exact l3
      · rw [e72, m6]; exact l4
      · rw [e72]; exact l5
      · rw [m2.2.2.2.2.1]; exact (c1 70 (by decide) (by decide) (by decide) (by decide)).2.2
      · exact ⟨by rw [m2.2.2.2.2.2.1]; exact g.2.1, fun y y1 y2 => by
          have e1 := him y y1
          have g2 := g.2.2.2 y y2 (fun w => by have w : y = 50 ∨ y = 72 ∨ y = 77 := w; omega)
          exact ⟨by rw [m2.2.1]; exact g.2.2.1 y y2, (m2.2.2.1 y (n2 y (by omega) (by omega) (by omega))).trans g2.1, by rw [m2.2.2.2.2.1]; exact g2.2.2⟩⟩
    · rw [hX] at z
      obtain ⟨rfl, S1, im', c', bh', nb', rfl, g, ⟨l1, l2, l3, l4, l5, l6⟩, p50, i1, i2, hgood, hB, hp, hd, h42⟩ := z
      have c1 : ∀ y, y < 145 → (y = 51 ∨ y = 70 ∨ (109 ≤ y ∧ y ≤ 118) ∨ 120 ≤ y) → sI S1 y = sI S y ∧ sJ S1 y = sJ S y ∧ sP S1 y = sP S y := fun y h1 a1 => g.2.2.2 y (by omega) (fun w => by have w : y = 50 ∨ y = 55 ∨ y = 57 ∨ y = 72 ∨ y = 77 ∨ y = 84 ∨ y = 94 := w; omega)
      have hm1 : mSh S1 := q1.gf g (fun y h1 h2 w => by have w : y = 50 ∨ y = 55 ∨ y = 57 ∨ y = 72 ∨ y = 77 ∨ y = 84 ∨ y = 94 := w; omega)
      have hA1 : mA S1 = mA S := (c1 121 (by decide) (by omega)).1
      have hr1 : rT S1 tp := fun i hi => by rw [(c1 123 (by decide) (by omega)).1]; exact t5 i hi
      have e124 := (c1 124 (by decide) (by omega)).1
      have e120 := (c1 120 (by decide) (by omega)).1
      refine ⟨S1, rfl, (by exact ⟨_, rfl⟩), hm1, hB.1.1, hB.1.2.1 0 (by decide), ?_⟩
      rw [eA S1]
      refine (c_m_train hm1 hB.2.2.1 hr1 t1 (by rw [e120]; exact t3) q hqt).mono (fun v' w2 yy => ?_)
      rw [e124, hX] at yy
      obtain ⟨S2, rfl, m1, m2, m3, rfl, m4, m5, m6⟩ := yy
      have n2 : ∀ y, y ≠ 120 → y ≠ 121 → y ≠ 124 → y ∉ [120, 121, 124] := fun y a1 a2 a3 w => by simp only [List.mem_cons, List.not_mem_nil, or_false] at w; omega
      have c2 : ∀ y, y ≠ 120 → y ≠ 121 → y ≠ 124 → sI S2 y = sI S1 y ∧ sJ S2 y = sJ S1 y := fun y a1 a2 a3 => ⟨m2.2.2.1 y (n2 y a1 a2 a3), m2.2.2.2.1 y (n2 y a1 a2 a3)⟩
      have hA2 : mA S2 = tRow (mA S) y.2 := by rw [m4, hA1]; rfl
      have C : ∀ y, y < 145 → (y = 51 ∨ (109 ≤ y ∧ y ≤ 118) ∨ (121 < y ∧ y ≠ 124)) → sI S2 y = sI S y ∧ sJ S2 y = sJ S y := fun y a0 a1 => ⟨(c2 y (by omega) (by omega) (by omega)).1.trans (c1 y a0 (by omega)).1, (c2 y (by omega) (by omega) (by omega)).2.trans (c1 y a0 (by omega)).2.1⟩
      have hfar : ∀ j, 1084 ≤ j → mA S2 j = mA S j := fun j hj => by rw [hA2]; exact if_neg (by omega)
      have hB2 : kBd S2 im' (mA S2) c' (tRow (mA S) y.2) bh' nb' (st + 1) (st2 + 1) (u + 128) := by
        rw [hA2]
        exact (hB.rfc m2 (fun y w => by simp only [List.mem_cons, List.not_mem_nil, or_false] at w; omega)).up (by omega)
      have e72 := (c2 72 (by decide) (by decide) (by decide)).1
      have hiE : imE im S S2 := ⟨by rw [m2.2.2.2.2.2.1]; exact g.2.1, fun y y1 y2 => by
        have e1 := him y y1
        have g2 := g.2.2.2 y y2 (fun w => by have w : y = 50 ∨ y = 55 ∨ y = 57 ∨ y = 72 ∨ y = 77 ∨ y = 84 ∨ y = 94 := w; omega)
        exact ⟨by rw [m2.2.1]; exact g.2.2.1 y y2, (m2.2.2.1 y (n2 y (by omega) (by omega) (by omega))).trans g2.1, by rw [m2.2.2.2.2.1]; exact g2.2.2⟩⟩
      have p70 : sP S2 70 = sP S 70 := by rw [m2.2.2.2.2.1]; exact (c1 70 (by decide) (by omega)).2.2
      refine ⟨rfl, S2, rfl, ⟨im', c', tRow (mA S) y.2, bh', nb', st + 1, st2 + 1, n, 0, f, 0, tp, hB2, m1, ?_, ⟨hp.eq m2 (fun y h1 h2 => n2 y (by omega) (by omega) (by omega)), ?_, fun i hi => absurd hi (Nat.not_lt_zero i)⟩, ⟨by omega, (congrFun (c2 50 (by decide) (by decide) (by decide)).1 1).trans l1, m3, fun i hi => ?_, fun i hi => ?_⟩, ⟨?_, ?_, ?_⟩, fun q hq2 => (q6 q hq2).cg (C _ (by omega) (by omega)).1 (C _ (by omega) (by omega)).2 (C 142 (by omega) (by omega)).1 (C 143 (by omega) (by omega)).1 (C 144 (by omega) (by omega)).2, q7.cg (C 143 (by omega) (by omega)).1, fun i hi => ?_⟩, (l6.tr (gA.sE m2)).le (by omega) (by omega), m2.1.trans g.1⟩
      · rw [hA2]; exact hd.eq m2 (n2 _ (by decide) (by decide) (by decide))
      · rw [hA2, tRow_o 42 (by decide), h42]; rfl
      · rw [(C 51 (by omega) (by omega)).1]; exact t4 i hi
      · rw [(C 123 (by omega) (by omega)).1]; exact t5 i hi
      · rw [e72, m5]; exact l3
      · rw [e72, m6]; exact l4
      · rw [e72]; exact l5
      · have em := mRes_far hfar i
        rcases q8 i hi with ⟨r1, r2⟩ | ⟨r1, dd, r2, r3, r4, r5⟩
        · exact Or.inl ⟨by rw [(C 122 (by omega) (by omega)).1]; exact r1, by rw [p70]; exact r2⟩
        · refine Or.inr ⟨by rw [(C 122 (by omega) (by omega)).1]; exact r1, dd, by rw [p70]; exact r2, by rw [em]; exact r3.im hiE i1, by rw [em]; exact r4, ?_⟩
          rw [em]
          unfold sdE at r5 ⊢
          rw [(C (117 + i) (by omega) (by omega)).1]
          exact r5
