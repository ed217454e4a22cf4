/-! ===== rows, made when they are wanted ===== -/
theorem xSh.rE {S S' : ab_S} {r : Nat} {l : List Nat} (hx : xSh S) (h : rEq r l S S') (hr : 145 ≤ r) : xSh S' := by
  obtain ⟨x1, x2, x3⟩ := hx
  refine ⟨by rw [h.2.2.2.2.2.2.1]; exact x1, fun k hk => by rw [h.2.1]; exact x2 k hk, fun t ht => ?_⟩
  have hlt : t.1 < 120 := (show ∀ t ∈ xPl, t.1 < 120 by decide) t ht
  rw [h.2.2.2.2.1 t.1 (by omega)]
  exact x3 t ht
/-- what a call that only asks may change -/
def fAs (im : Nat → Prop) (bh : Nat) (S S' : ab_S) : Prop := gF (fun y => y = 50 ∨ y = 56 ∨ (84 ≤ y ∧ y ≤ 108) ∨ y = bh ∨ (145 ≤ y ∧ ¬ im y)) S S' ∧ sI S' 50 = sI S 50 ∧ ∀ k, k ≠ 15 → k ≠ 16 → sP S' 50 k = sP S 50 k
theorem fAs.rf {im : Nat → Prop} {bh : Nat} {S : ab_S} : fAs im bh S S := ⟨gF.rf, rfl, fun _ _ _ => rfl⟩
theorem fAs.tr {im : Nat → Prop} {bh : Nat} {S S1 S2 : ab_S} (h : fAs im bh S S1) (g : fAs im bh S1 S2) : fAs im bh S S2 := ⟨h.1.tr g.1, g.2.1.trans h.2.1, fun k h1 h2 => (g.2.2 k h1 h2).trans (h.2.2 k h1 h2)⟩
theorem fAs.of {im l : Nat → Prop} {bh : Nat} {S S1 : ab_S} (h : gF l S S1) (h50 : 50 < sn S) (hl : ∀ y, y < sn S → l y → y = 56 ∨ (84 ≤ y ∧ y ≤ 108) ∨ y = bh ∨ (145 ≤ y ∧ ¬ im y)) (hb : 84 ≤ bh) : fAs im bh S S1 := by
  have e := h.2.2.2 50 h50 (fun z => by have := hl 50 h50 z; omega)
  exact ⟨h.mono (fun y hy z => Or.inr (hl y hy z)), e.1, fun k _ _ => by rw [e.2.2]⟩
/-- rows of size N: they were there, or are made now, larger than those before -/
def gwR (S S' : ab_S) (N : Nat) : Prop := (sP S' 50 16 = sP S 50 16 ∧ sP S' 84 6 = sP S 84 6) ∧ ((sn S' = sn S ∧ sz S' = sz S ∧ sP S' 50 15 = sP S 50 15) ∨ (sn S' = sn S + 8 ∧ sz S' = sz S + (15 + 10 * N) ∧ ∀ r0 N0, sP S 50 15 = some r0 → roK S r0 N0 → N0 < N))
theorem kBd.nwR {S S1 : ab_S} {im : Nat → Prop} {a b : Nat → Int32} {c bh nb st st2 u r N m z : Nat} (h : kBd S im a c b bh nb st st2 u) (g : grE S S1 m z) (hr : r = sn S) (hO : roK S1 r N) (hz : szN N) (h12 : sI S1 r 12 = nI 0) (h14 : sI S1 r 14 = nI 0) (h9 : sI S1 r 9 = -1) (hso : ∀ v, v < N → ∃ e, sI S1 (r + 2) v = nI e ∧ e < 15000) (hold : ∀ r0 N0, sP S 50 15 = some r0 → roK S r0 N0 → N0 < N) : kBd (pP S1 50 15 (some r)) im a c b bh nb st st2 u := by
  obtain ⟨q1, q2⟩ := h.bh
  obtain ⟨x1, x2, x3, ⟨x4, x5, x6⟩, x7, x8, ⟨x9, x10, x11, x12⟩, x13, ⟨x14, x15⟩, x16, x17, x18, x19⟩ := h
  have hbn : bh < sn S := x11.2.2.2.2.2.2.2.1.2
  have g' : gF (fun y => y = 50) S (pP S1 50 15 (some r)) := ((gF.gr g).mono (fun _ _ z => z.elim)).pP rfl
  have g1 : gF (fun y => y = 50) S1 (pP S1 50 15 (some r)) := gF.rf.pP rfl
  have i50 : ∀ y, im y → ¬ y = 50 := fun y z w => by have := x4 y z; omega
  have e50 := (g.2.2.2 50 (by omega)).2.2.2
  have e84 := (g'.2.2.2 84 (by omega) (by decide)).1
  have e94 := (g'.2.2.2 94 (by omega) (by decide)).1
  have e104 := (g'.2.2.2 104 (by omega) (by decide)).2.2
  have e16 : sP (pP S1 50 15 (some r)) 50 16 = sP S 50 16 := (gP_k (by decide)).trans (by rw [e50])
  refine ⟨(x1.gr g).r50 (Or.inl rfl), x2.gf g' (by omega) (fun y y1 y2 w => by omega), by rw [g'.1]; exact x3, ⟨x4, fun y w => Nat.lt_of_lt_of_le (x5 y w) g'.2.1, Nat.le_trans x6 g'.2.1⟩, x7, (gP_k (by decide)).trans (by rw [e50]; exact x8), ⟨x9, x10, x11.gf g' (by omega) i50 (by decide) (by omega) (by decide) (by decide), x12⟩, x13.gf g' (by omega) i50 (by decide) (by decide) (by decide) (by decide), ⟨by rw [e84]; exact x14, by rw [e94]; exact x15⟩, by unfold idR; rw [e104]; exact x16, ?_, x18, x19⟩
  refine Or.inr ⟨r, N, 0, 0, b, gP_s, fun y y1 y2 w => by have := x5 y w; omega, Or.inl (by omega), hO.gf g1 (by have := hO.1; omega), hz, hso, h12, by decide, h14, Nat.zero_le _, fun s s1 s2 w => ?_, fun w => absurd w (by decide), ?_⟩
  · have w2 : nI s = -1 := w.symm.trans h9
    exact nI_m1 (by omega) w2
  · rcases x17 with ⟨-, y2⟩ | ⟨r0, N0, kn, rs, b1, p, hi, hb, hK, hz0, hs, k1, k2, r1, r2, h90, hI, hF⟩
    · exact Or.inl (e16.trans y2)
    · have hlt := hold r0 N0 p hK
      rcases hF with hF | ⟨F, M, pF, hiF, hbF, hrF, hKF, hzF, hM, hsF⟩
      · exact Or.inl (e16.trans hF)
      · exact Or.inr ⟨F, M, e16.trans pF, hiF, hbF, Or.inl (by have := hKF.2.1; omega), hKF.gf g' (by have := hKF.1; omega), hzF, by omega, fun w => absurd w (by omega)⟩
theorem kFc_15 {R : Nat} (h : R ≤ 4) : kFc R * 5 ^ R ≤ 15000 := (show ∀ R, R < 5 → kFc R * 5 ^ R ≤ 15000 by decide) R (by omega)
theorem gwR.fr {S S1 S2 S3 : ab_S} {N r : Nat} (h : gwR S S1 N) (a1 : sn S2 = sn S1) (a2 : sz S2 = sz S1) (p2 : sP S2 50 15 = some r) (b1 : sn S3 = sn S2) (b2 : sz S3 = sz S2) (p1 : sP S1 50 15 = some r) (p3 : sP S3 50 15 = some r) (e2 : sP S2 = sP S1) (e3 : sP S3 50 = sP S2 50) (e4 : sP S3 84 = sP S2 84) : gwR S S3 N := by
  obtain ⟨⟨y1, y2⟩, h⟩ := h
  refine ⟨⟨by rw [e3, e2]; exact y1, by rw [e4, e2]; exact y2⟩, ?_⟩
  rcases h with ⟨h1, h2, h3⟩ | ⟨h1, h2, h3⟩
  · exact Or.inl ⟨by omega, by omega, p3.trans (p1.symm.trans h3)⟩
  · exact Or.inr ⟨by omega, by omega, h3⟩
def tb_s_settled : List (Nat × Instr × Nat) := [(0, .aload_n 0, 1), (1, .getfield 87, 3), (4, .aload_n 0, 1), (5, .invokevirtual 163, 3), (8, .aload_n 0, 1), (9, .getfield 27, 3), (12, .getfield 145, 3), (15, .aload_n 0, 1), (16, .getfield 27, 3), (19, .getfield 151, 3), (22, .invokevirtual 289, 3), (25, .aload_n 0, 1), (26, .getfield 87, 3), (29, .areturn, 1)]
theorem tk_s_settled : ∀ q ∈ tb_s_settled, decode M_s_settled.2.1 q.1 = .ok q.2 := by decide +kernel
theorem b_s_settled {G : ab_G} {S : ab_S} {im : Nat → Prop} {a b : Nat → Int32} {c bh nb st st2 u : Nat} (h : kBd S im a c b bh nb st st2 u) (ht : sdE S 55 (rowT a)) (hu : u + 1 < 2 ^ 20) : ab_C G 5 M_s_settled [.ref 50] (sw S) (fun v w' => v = some (.ref 104) ∧ ∃ S' st' n t, w' = sw S' ∧ sEq [84, 89, 91, 92, 93, bh, 104, 105, 106] S S' ∧ kBd S' im a c a bh nb st' st2 (u + 1) ∧ sdE S' 55 (rowT a) ∧ isLas (cI a (aW a) (aQ a)) n t ∧ n ≤ 625 ∧ sI S' 104 2 = nI t ∧ sI S' 104 3 = nI (n - t) ∧ ∀ i, i ≤ n → sI S' 105 i = nI (cI a (aW a) (aQ a) i)) := by
  refine x_enter [some (.ref 50)] (by decide) (Nat.le_of_ble_eq_true rfl) rfl (fun v w' h => by obtain ⟨rfl, -⟩ := h; trivial) ?_
  have hbh := h.bh.1
  have h0 := h
  obtain ⟨hx, hse, kc, ⟨him, hil, h145⟩, ha, hc, ⟨hb1, hb2, hcl, hnb⟩, hcl9, -, hid, -, hu1, hu2⟩ := h0
  have h40 : sI S 55 3 = a 40 := ht.2.2.2.1.trans ha.1.m40.1.symm
  refine x_aload_n 1 0 (ab_dd tk_s_settled 0 rfl) rfl rfl rfl ?_
  refine t_getP 4 104 (ab_dd tk_s_settled 1 rfl) rfl F_s_87 (by decide) (Nat.lt_of_lt_of_le (by decide) hx.1) (hx.2.1 0 (by decide)) rfl (hx.2.2 (50, 14, 104) (by decide)) ?_
  refine x_aload_n 5 0 (ab_dd tk_s_settled 2 rfl) rfl rfl rfl ?_
  refine t_callV 8 M_s_lawsNow 1 0 [] (ab_dd tk_s_settled 3 rfl) rfl (by first | decide | omega) K_s_lawsNow V_s_lawsNow.1 V_s_lawsNow.2 L_s_163 rfl (Nat.le_of_ble_eq_true rfl) (by decide) (Nat.lt_of_lt_of_le (by decide) hx.1) (hx.2.1 0 (by decide)) rfl (b_s_lawsNow h ht hu) (fun v1 w1 h1 => ?_)
  obtain ⟨rfl, S1, s1, rfl, hE1, hB1, hn1⟩ := h1
  have hB1c := hB1
  obtain ⟨hx1, hse1, kc1, -, -, -, ⟨-, -, hcl1, -⟩, -⟩ := hB1c
  refine x_aload_n 9 0 (ab_dd tk_s_settled 4 rfl) rfl rfl rfl ?_
  refine t_getP 12 55 (ab_dd tk_s_settled 5 rfl) rfl F_s_27 (by decide) (Nat.lt_of_lt_of_le (by decide) hx1.1) (hx1.2.1 0 (by decide)) rfl (hx1.2.2 (50, 3, 55) (by decide)) ?_
  refine t_getI 15 (ab_dd tk_s_settled 6 rfl) rfl F_s_145 (by decide) (Nat.lt_of_lt_of_le (by decide) hx1.1) (hx1.2.1 5 (by decide)) rfl (x_topn (aW a) hn1.2.1 ?_)
  refine x_aload_n 16 0 (ab_dd tk_s_settled 7 rfl) rfl rfl rfl ?_
  refine t_getP 19 55 (ab_dd tk_s_settled 8 rfl) rfl F_s_27 (by decide) (Nat.lt_of_lt_of_le (by decide) hx1.1) (hx1.2.1 0 (by decide)) rfl (hx1.2.2 (50, 3, 55) (by decide)) ?_
  refine t_getI 22 (ab_dd tk_s_settled 9 rfl) rfl F_s_151 (by decide) (Nat.lt_of_lt_of_le (by decide) hx1.1) (hx1.2.1 5 (by decide)) rfl (x_topn (aQ a) hn1.2.2.1 ?_)
  refine t_callV 25 M_id_settle 4 3 [_, _, _] (ab_dd tk_s_settled 10 rfl) rfl (by first | decide | omega) K_id_settle V_id_settle.1 V_id_settle.2 L_s_289 rfl (Nat.le_of_ble_eq_true rfl) (by decide) (Nat.lt_of_lt_of_le (by decide) hx1.1) (hx1.2.1 54 (by decide)) rfl (c_id_settle hx1 hse1 kc1 him (Or.inl rfl) hcl1 ha (aW a) (aQ a) (rowT_in ha.1).2.1 (rowT_in ha.1).1) (fun v1 w1 h1 => ?_)
  obtain ⟨rfl, S2, n, t, rfl, hE2, hcl2, f1, f2, f3, f4, f5⟩ := h1
  have hB2 : kBd S2 im a c a bh nb s1 st2 (u + 1) := hB1.se84 hE2 (fun y hy => by simp only [List.mem_cons, List.not_mem_nil, or_false] at hy; omega) ha sta.rf ha.1 sta.rf hcl2 (kpX.of (hE2.2.2.1 84 (by simp only [List.mem_cons, List.not_mem_nil, or_false, not_or]; omega))) (Nat.le_refl _) (Nat.le_refl _) hB1.2.2.2.2.2.2.2.2.2.2.2.1
  have hx2 : xSh S2 := hB2.1
  refine x_aload_n 26 0 (ab_dd tk_s_settled 11 rfl) rfl rfl rfl ?_
  refine t_getP 29 104 (ab_dd tk_s_settled 12 rfl) rfl F_s_87 (by decide) (Nat.lt_of_lt_of_le (by decide) hx2.1) (hx2.2.1 0 (by decide)) rfl (hx2.2.2 (50, 14, 104) (by decide)) ?_
  exact x_aret (ab_dd tk_s_settled 13 rfl) ⟨rfl, S2, s1, n, t, rfl, (hE1.mono (fun y hy => by simp only [List.mem_cons, List.not_mem_nil, or_false] at hy ⊢; omega)).tr (hE2.mono (fun y hy => by simp only [List.mem_cons, List.not_mem_nil, or_false] at hy ⊢; omega)), hB2, hn1.eq hE2 (by simp only [List.mem_cons, List.not_mem_nil, or_false, not_or]; omega), f1, f2, f3, f4, f5⟩
def tb_s_rowsNow : List (Nat × Instr × Nat) := [(0, .getstatic 322, 3), (3, .aload_n 0, 1), (4, .getfield 20, 3), (7, .getfield 177, 3), (10, .iaload, 1), (11, .getstatic 325, 3), (14, .aload_n 0, 1), (15, .getfield 20, 3), (18, .getfield 177, 3), (21, .iaload, 1), (22, .imul, 1), (23, .istore_n 1, 1), (24, .aload_n 0, 1), (25, .getfield 91, 3), (28, .ifnull 14, 3), (31, .aload_n 0, 1), (32, .getfield 91, 3), (35, .invokevirtual 328, 3), (38, .iload_n 1, 1), (39, .if_icmp .ge 19, 3), (42, .aload_n 0, 1), (43, .new 298, 3), (46, .dup, 1), (47, .aload_n 0, 1), (48, .getfield 68, 3), (51, .iload_n 1, 1), (52, .invokespecial 330, 3), (55, .putfield 91, 3), (58, .aload_n 0, 1), (59, .getfield 91, 3), (62, .aload_n 0, 1), (63, .invokevirtual 163, 3), (66, .aload_n 0, 1), (67, .getfield 27, 3), (70, .getfield 145, 3), (73, .aload_n 0, 1), (74, .getfield 27, 3), (77, .getfield 151, 3), (80, .invokevirtual 333, 3), (83, .aload_n 0, 1), (84, .getfield 91, 3), (87, .areturn, 1)]
theorem tk_s_rowsNow : ∀ q ∈ tb_s_rowsNow, decode M_s_rowsNow.2.1 q.1 = .ok q.2 := by decide +kernel
theorem b_s_rowsNow {G : ab_G} {S : ab_S} {im : Nat → Prop} {a b : Nat → Int32} {c bh nb st st2 u : Nat} (h : kBd S im a c b bh nb st st2 u) (ht : sdE S 55 (rowT a)) (hu : u + 2 < 2 ^ 20) : ab_C G 3 M_s_rowsNow [.ref 50] (sw S) (fun v w' => ∃ S' st' r N k rs, v = some (.ref r) ∧ w' = sw S' ∧ fAs im bh S S' ∧ gwR S S' N ∧ kBd S' im a c a bh nb st' st2 (u + 2) ∧ sdE S' 55 (rowT a) ∧ rfB S' im bh st' a (u + 2) r N k rs ∧ (kFc (aR a) * 5 ^ aR a) ≤ N) := by
  refine x_enter [some (.ref 50), none] (by decide) (Nat.le_of_ble_eq_true rfl) rfl (fun v w' h => by obtain ⟨S1, s1, r, N, k, rs, rfl, -⟩ := h; trivial) ?_
  have hbh := h.bh.1
  have h0 := h
  obtain ⟨hx, hse, kc, ⟨him, hil, h145⟩, ha, hc, ⟨hb1, hb2, hcl, hnb⟩, hcl9, -, hid, hrf0, hu1, hu2⟩ := h0
  have h40 : sI S 55 3 = a 40 := ht.2.2.2.1.trans ha.1.m40.1.symm
  have hca := hcl.1.sta hb2.sy
  obtain ⟨hk, c1, -⟩ := hca
  have hR := ha.1.R.2
  have h84 : 84 ≤ bh := by omega
  have hN15 : (kFc (aR a) * 5 ^ aR a) ≤ 15000 := kFc_15 hR
  have h50 : 50 ≤ sn S := by omega
  have tail : ∀ (S1 : ab_S) (r N : Nat), kBd S1 im a c b bh nb st st2 u → sdE S1 55 (rowT a) → fAs im bh S S1 → gwR S S1 N → sP S1 50 15 = some r → roK S1 r N → (kFc (aR a) * 5 ^ aR a) ≤ N → ab_Ex G 3 M_s_rowsNow 58 [some (.ref 50), some (.int (nI (kFc (aR a) * 5 ^ aR a)))] [] (sw S1) (fun v w' => ∃ S' st' r N k rs, v = some (.ref r) ∧ w' = sw S' ∧ fAs im bh S S' ∧ gwR S S' N ∧ kBd S' im a c a bh nb st' st2 (u + 2) ∧ sdE S' 55 (rowT a) ∧ rfB S' im bh st' a (u + 2) r N k rs ∧ (kFc (aR a) * 5 ^ aR a) ≤ N) := by
    intro S1 r N hB1 hn1 hF1 hG1 hp1 hO1 hN1
    have hx1 : xSh S1 := hB1.1
    have hr1 := hO1.1
    refine x_aload_n 59 0 (ab_dd tk_s_rowsNow 28 rfl) rfl rfl rfl ?_
    refine t_getP 62 r (ab_dd tk_s_rowsNow 29 rfl) rfl F_s_91 (by decide) (Nat.lt_of_lt_of_le (by decide) hx1.1) (hx1.2.1 0 (by decide)) rfl hp1 ?_
    refine x_aload_n 63 0 (ab_dd tk_s_rowsNow 30 rfl) rfl rfl rfl ?_
    refine t_callV 66 M_s_lawsNow 1 0 [] (ab_dd tk_s_rowsNow 31 rfl) rfl (by first | decide | omega) K_s_lawsNow V_s_lawsNow.1 V_s_lawsNow.2 L_s_163 rfl (Nat.le_of_ble_eq_true rfl) (by decide) (Nat.lt_of_lt_of_le (by decide) hx1.1) (hx1.2.1 0 (by decide)) rfl (b_s_lawsNow hB1 hn1 (by omega)) (fun v1 w1 h1 => ?_)
    obtain ⟨rfl, S2, s2, rfl, hE2, hB2, hn2⟩ := h1
    have hB2c := hB2
    obtain ⟨hx2, hse2, kc2, ⟨-, -, h1452⟩, -, -, ⟨-, -, hcl2, -⟩, -, -, -, hrf, hq1, hq2⟩ := hB2c
    have hp2 : sP S2 50 15 = some r := by rw [hE2.2.2.2.2.1]; exact hp1
    have hO2 : roK S2 r N := hO1.eq hE2
    rcases hrf with ⟨z, -⟩ | ⟨r3, N3, kn, rs, b3, p, hi, hb, hK, hz, hs, k1, k2, r1, r2, h9, hI, hF⟩
    · rw [hp2] at z; cases z
    have er : r3 = r := Option.some.inj (p.symm.trans hp2)
    rw [er] at p hi hb hK hs k1 r1 h9 hI hF
    have eN : N3 = N := by
      have z := hK.2.2.2.1.symm.trans hO2.2.2.2.1
      simpa using z
    rw [eN] at hK hz hs hI hF
    refine x_aload_n 67 0 (ab_dd tk_s_rowsNow 32 rfl) rfl rfl rfl ?_
    refine t_getP 70 55 (ab_dd tk_s_rowsNow 33 rfl) rfl F_s_27 (by decide) (Nat.lt_of_lt_of_le (by decide) hx2.1) (hx2.2.1 0 (by decide)) rfl (hx2.2.2 (50, 3, 55) (by decide)) ?_
    refine t_getI 73 (ab_dd tk_s_rowsNow 34 rfl) rfl F_s_145 (by decide) (Nat.lt_of_lt_of_le (by decide) hx2.1) (hx2.2.1 5 (by decide)) rfl (x_topn (aW a) hn2.2.1 ?_)
    refine x_aload_n 74 0 (ab_dd tk_s_rowsNow 35 rfl) rfl rfl rfl ?_
    refine t_getP 77 55 (ab_dd tk_s_rowsNow 36 rfl) rfl F_s_27 (by decide) (Nat.lt_of_lt_of_le (by decide) hx2.1) (hx2.2.1 0 (by decide)) rfl (hx2.2.2 (50, 3, 55) (by decide)) ?_
    refine t_getI 80 (ab_dd tk_s_rowsNow 37 rfl) rfl F_s_151 (by decide) (Nat.lt_of_lt_of_le (by decide) hx2.1) (hx2.2.1 5 (by decide)) rfl (x_topn (aQ a) hn2.2.2.1 ?_)
    refine t_callV 83 M_ro_begin 1 3 [_, _, _] (ab_dd tk_s_rowsNow 38 rfl) rfl (by first | decide | omega) K_ro_begin V_ro_begin.1 V_ro_begin.2 L_s_333 rfl (Nat.le_of_ble_eq_true rfl) (Nat.le_trans (by decide) hr1) (Nat.lt_of_le_of_lt (Nat.le_add_right r 7) hK.2.1) hK.2.2.1 rfl (c_ro_beg hx2 kc2 (hx2.cl (Or.inl rfl)) hcl2 hi hb ha hN1 hK hs k1 k2 hI) (fun v1 w1 h1 => ?_)
    obtain ⟨rfl, S3, k, rfl, hE3, hcl3, hI3, h93, hQ3⟩ := h1
    have hx3 : xSh S3 := hx2.rE hE3 hr1
    obtain ⟨rs3, hR3⟩ := rfB.beg (u := u + 1) (by omega) h1452 h84 ha.1 p hi hb hK hz r1 r2 (fun z => by obtain ⟨-, y, -⟩ := hI z; exact y) hF hE3 hI3 h93 hQ3
    have hl3 : ∀ y, (y ∈ [r, r + 1, r + 2, r + 3] ∨ y = r) → (r ≤ y ∧ y ≤ r + 7) := fun y z => by simp only [List.mem_cons, List.not_mem_nil, or_false] at z; omega
    have hB3 : kBd S3 im a c a bh nb s2 st2 (u + 2) := hB2.ro (gF.rE hE3) hx3 (fun y z => Or.inr (Or.inr ⟨by have := hl3 y z; omega, hi y (hl3 y z).1 (hl3 y z).2⟩)) hcl3 (by rw [hE3.2.2.1 84 (fun z => by have := hl3 84 (Or.inl z); omega)]) (hR3.K ha.1 hcl3.2.2.2.2.2.1.2) (by omega)
    refine x_aload_n 84 0 (ab_dd tk_s_rowsNow 39 rfl) rfl rfl rfl ?_
    refine t_getP 87 r (ab_dd tk_s_rowsNow 40 rfl) rfl F_s_91 (by decide) (Nat.lt_of_lt_of_le (by decide) hx3.1) (hx3.2.1 0 (by decide)) rfl hR3.1 ?_
    exact x_aret (ab_dd tk_s_rowsNow 41 rfl) ⟨S3, s2, r, N, k, rs3, rfl, rfl, (hF1.tr (fAs.of (gF.sE hE2) (Nat.lt_of_lt_of_le (by decide) hx1.1) (fun y _ z => by have := List.mem_singleton.mp z; omega) h84)).tr (fAs.of (gF.rE hE3) (by omega) (fun y _ z => Or.inr (Or.inr (Or.inr ⟨by have := hl3 y z; omega, hi y (hl3 y z).1 (hl3 y z).2⟩))) h84), hG1.fr (hE2.2.2.2.2.2.1.trans rfl) hE2.2.2.2.2.2.2 hp2 hE3.2.2.2.2.2.2.1 hE3.2.2.2.2.2.2.2 hp1 hR3.1 hE2.2.2.2.2.1 (hE3.2.2.2.2.1 50 (by omega)) (hE3.2.2.2.2.1 84 (by omega)), hB3, hn2.gf (gF.rE hE3) (by omega) (fun z => by have := hl3 55 z; omega), hR3, hN1⟩
  rcases hrf0 with ⟨p, -⟩ | ⟨r, N, kn, rs, b3, p, hi, hb, hK, -⟩
  · have hold : ∀ r0 N0, sP S 50 15 = some r0 → roK S r0 N0 → N0 < (kFc (aR a) * 5 ^ aR a) := fun r0 N0 z _ => by rw [p] at z; cases z
    refine x_gets 3 (ab_dd tk_s_rowsNow 0 rfl) rfl (List.mem_of_getElem? (i := 0) rfl) F_s_322 ?_
    refine x_aload_n 4 0 (ab_dd tk_s_rowsNow 1 rfl) rfl rfl rfl ?_
    refine t_getP 7 c (ab_dd tk_s_rowsNow 2 rfl) rfl F_s_20 (by decide) (Nat.lt_of_lt_of_le (by decide) hx.1) (hx.2.1 0 (by decide)) rfl hc ?_
    refine t_getI 10 (ab_dd tk_s_rowsNow 3 rfl) rfl F_s_177 hk.1 (Nat.lt_of_le_of_lt (Nat.le_add_right c 2) hk.2.1) hk.2.2.1 rfl (x_topn (aR a) c1 ?_)
    refine t_ialdK 11 (aR a) (ab_dd tk_s_rowsNow 4 rfl) rfl (by decide) h50 (kc.2.1) rfl (by omega) (by decide) (x_topn (kPw (aR a)) (kPw_N (aR a) (by omega)) ?_)
    refine x_gets 14 (ab_dd tk_s_rowsNow 5 rfl) rfl (List.mem_of_getElem? (i := 1) rfl) F_s_325 ?_
    refine x_aload_n 15 0 (ab_dd tk_s_rowsNow 6 rfl) rfl rfl rfl ?_
    refine t_getP 18 c (ab_dd tk_s_rowsNow 7 rfl) rfl F_s_20 (by decide) (Nat.lt_of_lt_of_le (by decide) hx.1) (hx.2.1 0 (by decide)) rfl hc ?_
    refine t_getI 21 (ab_dd tk_s_rowsNow 8 rfl) rfl F_s_177 hk.1 (Nat.lt_of_le_of_lt (Nat.le_add_right c 2) hk.2.1) hk.2.2.1 rfl (x_topn (aR a) c1 ?_)
    refine t_ialdK 22 (aR a) (ab_dd tk_s_rowsNow 9 rfl) rfl (by decide) h50 (kc.2.2) rfl (by omega) (by decide) (x_topn (kFc (aR a)) (kFc_N (aR a) (by omega)) ?_)
    refine x_imul 23 (ab_dd tk_s_rowsNow 10 rfl) rfl (x_topn (kFc (aR a) * 5 ^ aR a) (by rw [pk_mul, Nat.mul_comm]; rfl) ?_)
    refine x_istore_n 24 [some (.ref 50), some (.int (nI (kFc (aR a) * 5 ^ aR a)))] 1 (ab_dd tk_s_rowsNow 11 rfl) rfl rfl (by decide) rfl ?_
    refine x_aload_n 25 0 (ab_dd tk_s_rowsNow 12 rfl) rfl rfl rfl ?_
    refine t_getN 28 (ab_dd tk_s_rowsNow 13 rfl) rfl F_s_91 (by decide) (Nat.lt_of_lt_of_le (by decide) hx.1) (hx.2.1 0 (by decide)) rfl p ?_
    refine x_ifnull_t 42 (ab_dd tk_s_rowsNow 14 rfl) (by decide) ?_
    refine x_aload_n 43 0 (ab_dd tk_s_rowsNow 20 rfl) rfl rfl rfl ?_
    refine t_newO (ci := 6) 46 (ab_dd tk_s_rowsNow 21 rfl) rfl (show 50 ≤ sn S + 0 by omega) rfl Q_s_298 N_ro.1 N_ro.2 ?_
    have hxN : xSh (pN S (.inr 6) 15) := hx.gr (grE.of nwE.rf)
    refine x_dup 47 (ab_dd tk_s_rowsNow 22 rfl) rfl rfl ?_
    refine x_aload_n 48 0 (ab_dd tk_s_rowsNow 23 rfl) rfl rfl rfl ?_
    refine t_getP 51 78 (ab_dd tk_s_rowsNow 24 rfl) rfl F_s_68 (by decide) (Nat.lt_of_lt_of_le (by decide) hxN.1) (hxN.2.1 0 (by decide)) rfl (hxN.2.2 (50, 11, 78) (by decide)) ?_
    refine x_iload_n 52 1 (ab_dd tk_s_rowsNow 25 rfl) rfl rfl rfl ?_
    refine x_callI 55 M_ro_init 1 2 [_, _] (ab_dd tk_s_rowsNow 26 rfl) rfl (by first | decide | omega) K_ro_init rfl rfl V_ro_init L_s_330 rfl (Nat.le_of_ble_eq_true rfl) (c_ro_init (S := pN S (.inr 6) 15) (a := sn S) (by show 50 ≤ sn S + 1; omega) (by omega) (Nat.lt_succ_self _) up1_s (kFc (aR a) * 5 ^ aR a) hN15) (fun v1 w1 h1 => ?_)
    obtain ⟨rfl, S1, rfl, hN1, q0, q1, q2, q3, q4, q5, q6, q7, q8, k1, k2, k3, k4, k5, k6, k7, z12, z14, z9, zs⟩ := h1
    have g1 : grE S S1 _ _ := grE.of hN1
    have hx1 : xSh S1 := hx.gr g1
    refine t_putP 58 (ab_dd tk_s_rowsNow 27 rfl) rfl F_s_91 (by decide) (Nat.lt_of_lt_of_le (by decide) hx1.1) (hx1.2.1 0 (by decide)) rfl ?_
    have e1 : sn S1 = sn S + 8 := by have := g1.2.1; omega
    have e2 : sz S1 = sz S + (15 + 10 * (kFc (aR a) * 5 ^ aR a)) := by have := g1.2.2.1; omega
    have hO1 : roK S1 (sn S) (kFc (aR a) * 5 ^ aR a) := ⟨h145, by omega, (hN1.2.2.2.1 _ (Nat.lt_succ_self _)).trans up1_s, k1, k2, k3, k4, k5, k6, k7, q0, q1, q2, q3, q4, q5, q6, q7, hN15⟩
    have hB1 := h.nwR g1 rfl hO1 ⟨aR a, hR, rfl⟩ z12 z14 z9 (fun v hv => ⟨0, (congrFun zs v).trans rfl, by decide⟩) hold
    have g50 : gF (fun y => y = 50) S (pP S1 50 15 (some (sn S))) := ((gF.gr g1).mono (fun _ _ z => z.elim)).pP rfl
    have e50 := (g1.2.2.2 50 (by omega))
    exact tail _ (sn S) _ hB1 (ht.gf g50 (by omega) (by decide)) ⟨g50.mono (fun y _ z => Or.inl z), e50.2.1, fun k y1 y2 => (gP_k y1).trans (by rw [e50.2.2.2])⟩ ⟨⟨(gP_k (by decide)).trans (by rw [e50.2.2.2]), (congrFun (gP_o (by decide)) _).trans (by rw [(g1.2.2.2 84 (by omega)).2.2.2])⟩, Or.inr ⟨e1, e2, hold⟩⟩ gP_s (hO1.gf (gF.rf.pP (l := fun y => y = 50) rfl) (by omega)) (Nat.le_refl _)
  · have hr145 := hK.1
    have hN31 : N ≤ 15000 := hK.2.2.2.2.2.2.2.2.2.2.2.2.2.2.2.2.2.2
    refine x_gets 3 (ab_dd tk_s_rowsNow 0 rfl) rfl (List.mem_of_getElem? (i := 0) rfl) F_s_322 ?_
    refine x_aload_n 4 0 (ab_dd tk_s_rowsNow 1 rfl) rfl rfl rfl ?_
    refine t_getP 7 c (ab_dd tk_s_rowsNow 2 rfl) rfl F_s_20 (by decide) (Nat.lt_of_lt_of_le (by decide) hx.1) (hx.2.1 0 (by decide)) rfl hc ?_
    refine t_getI 10 (ab_dd tk_s_rowsNow 3 rfl) rfl F_s_177 hk.1 (Nat.lt_of_le_of_lt (Nat.le_add_right c 2) hk.2.1) hk.2.2.1 rfl (x_topn (aR a) c1 ?_)
    refine t_ialdK 11 (aR a) (ab_dd tk_s_rowsNow 4 rfl) rfl (by decide) h50 (kc.2.1) rfl (by omega) (by decide) (x_topn (kPw (aR a)) (kPw_N (aR a) (by omega)) ?_)
    refine x_gets 14 (ab_dd tk_s_rowsNow 5 rfl) rfl (List.mem_of_getElem? (i := 1) rfl) F_s_325 ?_
    refine x_aload_n 15 0 (ab_dd tk_s_rowsNow 6 rfl) rfl rfl rfl ?_
    refine t_getP 18 c (ab_dd tk_s_rowsNow 7 rfl) rfl F_s_20 (by decide) (Nat.lt_of_lt_of_le (by decide) hx.1) (hx.2.1 0 (by decide)) rfl hc ?_
    refine t_getI 21 (ab_dd tk_s_rowsNow 8 rfl) rfl F_s_177 hk.1 (Nat.lt_of_le_of_lt (Nat.le_add_right c 2) hk.2.1) hk.2.2.1 rfl (x_topn (aR a) c1 ?_)
    refine t_ialdK 22 (aR a) (ab_dd tk_s_rowsNow 9 rfl) rfl (by decide) h50 (kc.2.2) rfl (by omega) (by decide) (x_topn (kFc (aR a)) (kFc_N (aR a) (by omega)) ?_)
    refine x_imul 23 (ab_dd tk_s_rowsNow 10 rfl) rfl (x_topn (kFc (aR a) * 5 ^ aR a) (by rw [pk_mul, Nat.mul_comm]; rfl) ?_)
    refine x_istore_n 24 [some (.ref 50), some (.int (nI (kFc (aR a) * 5 ^ aR a)))] 1 (ab_dd tk_s_rowsNow 11 rfl) rfl rfl (by decide) rfl ?_
    refine x_aload_n 25 0 (ab_dd tk_s_rowsNow 12 rfl) rfl rfl rfl ?_
    refine t_getP 28 r (ab_dd tk_s_rowsNow 13 rfl) rfl F_s_91 (by decide) (Nat.lt_of_lt_of_le (by decide) hx.1) (hx.2.1 0 (by decide)) rfl p ?_
    refine x_ifnull_f 31 (ab_dd tk_s_rowsNow 14 rfl) rfl ?_
    refine x_aload_n 32 0 (ab_dd tk_s_rowsNow 15 rfl) rfl rfl rfl ?_
    refine t_getP 35 r (ab_dd tk_s_rowsNow 16 rfl) rfl F_s_91 (by decide) (Nat.lt_of_lt_of_le (by decide) hx.1) (hx.2.1 0 (by decide)) rfl p ?_
    refine t_callV 38 M_ro_size 0 0 [] (ab_dd tk_s_rowsNow 17 rfl) rfl (by first | decide | omega) K_ro_size V_ro_size.1 V_ro_size.2 L_s_328 rfl (Nat.le_of_ble_eq_true rfl) (Nat.le_trans (by decide) hr145) (Nat.lt_of_le_of_lt (Nat.le_add_right r 7) hK.2.1) hK.2.2.1 rfl (c_ro_size hK) (fun v1 w1 h1 => ?_)
    obtain ⟨rfl, rfl⟩ := h1
    refine x_iload_n 39 1 (ab_dd tk_s_rowsNow 18 rfl) rfl rfl rfl ?_
    refine xn_icmp_ge 42 58 (ab_dd tk_s_rowsNow 19 rfl) rfl (by decide) (by omega) (by omega) (fun h39 => ?_) (fun h39 => ?_)
    · exact tail S r N h ht fAs.rf ⟨⟨rfl, rfl⟩, Or.inl ⟨rfl, rfl, rfl⟩⟩ p hK (by omega)
    · have hold : ∀ r0 N0, sP S 50 15 = some r0 → roK S r0 N0 → N0 < (kFc (aR a) * 5 ^ aR a) := fun r0 N0 z y => by
        rw [p] at z
        cases z
        have w := y.2.2.2.1.symm.trans hK.2.2.2.1
        have w2 : N0 = N := by simpa using w
        omega
      refine x_aload_n 43 0 (ab_dd tk_s_rowsNow 20 rfl) rfl rfl rfl ?_
      refine t_newO (ci := 6) 46 (ab_dd tk_s_rowsNow 21 rfl) rfl (show 50 ≤ sn S + 0 by omega) rfl Q_s_298 N_ro.1 N_ro.2 ?_
      have hxN : xSh (pN S (.inr 6) 15) := hx.gr (grE.of nwE.rf)
      refine x_dup 47 (ab_dd tk_s_rowsNow 22 rfl) rfl rfl ?_
      refine x_aload_n 48 0 (ab_dd tk_s_rowsNow 23 rfl) rfl rfl rfl ?_
      refine t_getP 51 78 (ab_dd tk_s_rowsNow 24 rfl) rfl F_s_68 (by decide) (Nat.lt_of_lt_of_le (by decide) hxN.1) (hxN.2.1 0 (by decide)) rfl (hxN.2.2 (50, 11, 78) (by decide)) ?_
      refine x_iload_n 52 1 (ab_dd tk_s_rowsNow 25 rfl) rfl rfl rfl ?_
      refine x_callI 55 M_ro_init 1 2 [_, _] (ab_dd tk_s_rowsNow 26 rfl) rfl (by first | decide | omega) K_ro_init rfl rfl V_ro_init L_s_330 rfl (Nat.le_of_ble_eq_true rfl) (c_ro_init (S := pN S (.inr 6) 15) (a := sn S) (by show 50 ≤ sn S + 1; omega) (by omega) (Nat.lt_succ_self _) up1_s (kFc (aR a) * 5 ^ aR a) hN15) (fun v1 w1 h1 => ?_)
      obtain ⟨rfl, S1, rfl, hN1, q0, q1, q2, q3, q4, q5, q6, q7, q8, k1, k2, k3, k4, k5, k6, k7, z12, z14, z9, zs⟩ := h1
      have g1 : grE S S1 _ _ := grE.of hN1
      have hx1 : xSh S1 := hx.gr g1
      refine t_putP 58 (ab_dd tk_s_rowsNow 27 rfl) rfl F_s_91 (by decide) (Nat.lt_of_lt_of_le (by decide) hx1.1) (hx1.2.1 0 (by decide)) rfl ?_
      have e1 : sn S1 = sn S + 8 := by have := g1.2.1; omega
      have e2 : sz S1 = sz S + (15 + 10 * (kFc (aR a) * 5 ^ aR a)) := by have := g1.2.2.1; omega
      have hO1 : roK S1 (sn S) (kFc (aR a) * 5 ^ aR a) := ⟨h145, by omega, (hN1.2.2.2.1 _ (Nat.lt_succ_self _)).trans up1_s, k1, k2, k3, k4, k5, k6, k7, q0, q1, q2, q3, q4, q5, q6, q7, hN15⟩
      have hB1 := h.nwR g1 rfl hO1 ⟨aR a, hR, rfl⟩ z12 z14 z9 (fun v hv => ⟨0, (congrFun zs v).trans rfl, by decide⟩) hold
      have g50 : gF (fun y => y = 50) S (pP S1 50 15 (some (sn S))) := ((gF.gr g1).mono (fun _ _ z => z.elim)).pP rfl
      have e50 := (g1.2.2.2 50 (by omega))
      exact tail _ (sn S) _ hB1 (ht.gf g50 (by omega) (by decide)) ⟨g50.mono (fun y _ z => Or.inl z), e50.2.1, fun k y1 y2 => (gP_k y1).trans (by rw [e50.2.2.2])⟩ ⟨⟨(gP_k (by decide)).trans (by rw [e50.2.2.2]), (congrFun (gP_o (by decide)) _).trans (by rw [(g1.2.2.2 84 (by omega)).2.2.2])⟩, Or.inr ⟨e1, e2, hold⟩⟩ gP_s (hO1.gf (gF.rf.pP (l := fun y => y = 50) rfl) (by omega)) (Nat.le_refl _)
