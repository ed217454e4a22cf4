/-! ===== board ===== -/
theorem xSh.r502 {S : ab_S} {v : Option Nat} (hx : xSh S) : xSh (pP S 50 2 v) := by
  obtain ⟨x1, x2, x3⟩ := hx
  refine ⟨x1, x2, fun t ht => ?_⟩
  have hn : ∀ t ∈ xPl, t.1 = 50 → t.2.1 ≠ 2 := by decide
  by_cases z : t.1 = 50
  · rw [gP_k (hn t ht z)]; exact x3 t ht
  · rw [gP_o z]; exact x3 t ht
theorem xSh.ent {S S' : ab_S} {x : Nat} (hx : xSh S) (g : gF (fun y => y = x) S S') (hX : x = 84 ∨ x = 94) (p : ∀ k, k ≠ 2 → k ≠ 6 → sP S' x k = sP S x k) (h6 : x = 94 → sP S' 94 6 = some 98) : xSh S' := by
  obtain ⟨x1, x2, x3⟩ := hx
  refine ⟨Nat.le_trans x1 g.2.1, fun k hk => (g.2.2.1 _ (by omega)).trans (x2 k hk), fun t ht => ?_⟩
  have hlt : t.1 < 120 := (show ∀ t ∈ xPl, t.1 < 120 by decide) t ht
  by_cases z : t.1 = x
  · have hn : ∀ t ∈ xPl, (t.1 = 84 → t.2.1 ≠ 2 ∧ t.2.1 ≠ 6) ∧ (t.1 = 94 → t.2.1 ≠ 2 ∧ (t.2.1 = 6 → t.2.2 = 98)) := by decide
    obtain ⟨n1, n2⟩ := hn t ht
    rcases hX with y | y
    · rw [z, p _ (n1 (z.trans y)).1 (n1 (z.trans y)).2, ← z]; exact x3 t ht
    · by_cases w : t.2.1 = 6
      · rw [z, w, y, h6 y, (n2 (z.trans y)).2 w]
      · rw [z, p _ (n2 (z.trans y)).1 w, ← z]; exact x3 t ht
  · rw [(g.2.2.2 t.1 (by omega) z).2.2]; exact x3 t ht
theorem rfK.bd {S S' : ab_S} {im : Nat → Prop} {bh bh' st u u' : Nat} {b0 b1 : Nat → Int32} (h : rfK S im bh st b0 u) (g : gF (fun y => y = 50 ∨ y = 57 ∨ y = 84 ∨ y = 94) S S') (e15 : sP S' 50 15 = sP S 50 15) (e16 : sP S' 50 16 = sP S 50 16) (hbh : bh' = bh ∨ bh' = sn S) (hst : st + 1 < 2 ^ 20) (hu : u ≤ u') : rfK S' im bh' (st + 1) b1 u' := by
  rcases h with ⟨h1, h2⟩ | ⟨r, N, kn, rs, b, p, hi, hb, hK, hz, hs, k1, k2, r1, r2, h9, hI, hF⟩
  · exact Or.inl ⟨e15.trans h1, e16.trans h2⟩
  · have hr := hK.1
    have hr2 := hK.2.1
    have nl : ∀ y, r ≤ y → ¬ (y = 50 ∨ y = 57 ∨ y = 84 ∨ y = 94) := fun y h1 z => by omega
    have e0 := (g.2.2.2 r (by omega) (nl r (by omega))).1
    have e2 := (g.2.2.2 (r + 2) (by omega) (nl (r + 2) (by omega))).1
    refine Or.inr ⟨r, N, kn, rs, b, e15.trans p, hi, by omega, hK.gf g (nl r (by omega)), hz, by rw [e2]; exact hs, by rw [e0]; exact k1, k2, by rw [e0]; exact r1, by omega, fun s y1 y2 => by rw [e0]; exact h9 s (by omega) y2, fun z => ?_, ?_⟩
    · obtain ⟨k, q1, q2, q3⟩ := hI z
      exact ⟨k, q1, q2.gf g hr2 (fun y y1 y2 => nl y y1), fun y => absurd y (by rw [e0]; exact h9 (st + 1) (by omega) hst)⟩
    · rcases hF with hF | ⟨F, M, pF, hiF, hbF, hrF, hKF, hzF, hM, hsF⟩
      · exact Or.inl (e16.trans hF)
      · have hF1 := hKF.1
        have hF2 := hKF.2.1
        have f0 := (g.2.2.2 F (by omega) (by omega)).1
        have f1 := (g.2.2.2 (F + 1) (by omega) (by omega)).1
        refine Or.inr ⟨F, M, e16.trans pF, hiF, by omega, hrF, hKF.gf g (by omega), hzF, hM, fun z => ?_⟩
        obtain ⟨s1, s2⟩ := hsF z
        rw [f0]
        exact ⟨s1, fun y => ⟨(s2 y).1, fun p h T a1 a2 a3 a4 a5 => ((s2 y).2 p h T a1 a2 a3 a4 a5).ge f1⟩⟩
def tb_s_board : List (Nat × Instr × Nat) := [(0, .aload_n 0, 1), (1, .aload_n 1, 1), (2, .putfield 20, 3), (5, .aload_n 0, 1), (6, .getfield 77, 3), (9, .aload_n 1, 1), (10, .invokevirtual 100, 3), (13, .aload_n 0, 1), (14, .getfield 81, 3), (17, .aload_n 1, 1), (18, .invokevirtual 100, 3), (21, .aload_n 0, 1), (22, .getfield 37, 3), (25, .invokevirtual 124, 3), (28, .return_, 1)]
theorem tk_s_board : ∀ q ∈ tb_s_board, decode M_s_board.2.1 q.1 = .ok q.2 := by decide +kernel
theorem b_s_board {G : ab_G} {S : ab_S} {im : Nat → Prop} {a b : Nat → Int32} {c bh nb st st2 u : Nat} (h : kBd S im a c b bh nb st st2 u) (hu : u + 1 < 2 ^ 20) {n s : Nat} {f : Nat → sT} (hp : paI S n s f) {d : Nat} {b1 a1 : Nat → Int32} (hb1 : aOk b1) (hca : caI S im d b1) (h3 : sI S d 3 = nI (seaC b1)) (h2 : sI S d 2 = b1 40) (ha1 : aGood a1) (hs1 : sta a1 b1) : ab_C G 1 M_s_board [.ref 50, .ref d] (sw S) (fun v w' => v = none ∧ ∃ S' bh' nb', w' = sw S' ∧ gF (fun y => y = 50 ∨ y = 57 ∨ y = 84 ∨ y = 94) S S' ∧ sI S' 50 = sI S 50 ∧ (∀ k, k ≠ 2 → sP S' 50 k = sP S 50 k) ∧ kBd S' im a1 d b1 bh' nb' (st + 1) (st2 + 1) (u + 1) ∧ paI S' n 0 f ∧ ((bh' = bh ∧ nb' = nb ∧ sn S' = sn S ∧ sz S' = sz S) ∨ (nb < (kFc (aR b1) * 5 ^ aR b1) ∧ bh' = sn S ∧ nb' = (kFc (aR b1) * 5 ^ aR b1) ∧ sn S' = sn S + 1 ∧ sz S' = sz S + (kFc (aR b1) * 5 ^ aR b1)))) := by
  refine x_enter [some (.ref 50), some (.ref d)] (by decide) (Nat.le_of_ble_eq_true rfl) rfl (fun v w' h => by obtain ⟨rfl, -⟩ := h; trivial) ?_
  have hbh := h.bh.1
  obtain ⟨hx, hse, kc, ⟨him, hil, h145⟩, ha, hc, ⟨hob, hsb, hcl, hnb⟩, ⟨b9, hb9, hs9, hcl9⟩, ⟨hr84, hr94⟩, hid, hrf, hu1, hu2⟩ := h
  have hk := hca.1
  have hdim := hk.2.2.2.2.2.2.2.1
  have hd := him d hdim
  have hdn := hil d hdim
  have hbn : bh < sn S := hcl.2.2.2.2.2.2.2.1.2
  refine x_aload_n 1 0 (ab_dd tk_s_board 0 rfl) rfl rfl rfl ?_
  refine x_aload_n 2 1 (ab_dd tk_s_board 1 rfl) rfl rfl rfl ?_
  refine t_putP 5 (ab_dd tk_s_board 2 rfl) rfl F_s_20 (by decide) (Nat.lt_of_lt_of_le (by decide) hx.1) (hx.2.1 0 (by decide)) rfl ?_
  obtain ⟨S1, hS1⟩ : ∃ S1, S1 = pP S 50 2 (some d) := ⟨_, rfl⟩
  rw [← hS1]
  have g1 : gF (fun y => y = 50) S S1 := by rw [hS1]; exact gF.pP (a := 50) gF.rf rfl
  have n1 : sn S1 = sn S := by rw [hS1]; rfl
  have z1 : sz S1 = sz S := by rw [hS1]; rfl
  have i1 : sI S1 = sI S := by rw [hS1]; rfl
  have p1 : ∀ k, k ≠ 2 → sP S1 50 k = sP S 50 k := fun k hk => by rw [hS1]; exact gP_k hk
  have p12 : sP S1 50 2 = some d := by rw [hS1]; exact gP_s
  have hx1 : xSh S1 := by rw [hS1]; exact hx.r502
  have i50 : ∀ y, im y → ¬ y = 50 := fun y z w => by have := him y z; omega
  have hcl1 : clI S1 im 84 c b bh nb st := hcl.gf g1 (by omega) i50 (by decide) (by omega) (by decide) (by decide)
  have hcl91 : clI S1 im 94 c b9 98 0 st2 := hcl9.gf g1 (by omega) i50 (by decide) (by decide) (by decide) (by decide)
  have hca1 : caI S1 im d b1 := hca.im (g1.im i50) (fun _ z => z)
  refine x_aload_n 6 0 (ab_dd tk_s_board 3 rfl) rfl rfl rfl ?_
  refine t_getP 9 84 (ab_dd tk_s_board 4 rfl) rfl F_s_77 (by decide) (Nat.lt_of_lt_of_le (by decide) hx1.1) (hx1.2.1 0 (by decide)) rfl (hx1.2.2 (50, 12, 84) (by decide)) ?_
  refine x_aload_n 10 1 (ab_dd tk_s_board 5 rfl) rfl rfl rfl ?_
  refine t_callV 13 M_cl_enter 0 1 [_] (ab_dd tk_s_board 6 rfl) rfl (by first | decide | omega) K_cl_enter V_cl_enter.1 V_cl_enter.2 L_s_100 rfl (Nat.le_of_ble_eq_true rfl) (by decide) (Nat.lt_of_lt_of_le (by decide) hx1.1) (hx1.2.1 34 (by decide)) rfl (c_cl_enter (by rw [g1.1]; exact kc) (by omega) (hx1.cl (Or.inl rfl)) him (fun y z => by have := hil y z; omega) hcl1 (by omega) hb1 hca1 (by rw [i1]; exact h3) (by rw [i1]; exact h2)) (fun v1 w1 h1 => ?_)
  obtain ⟨rfl, S2, bh2, nb2, rfl, g2, hcl2, r2, p2, alt2⟩ := h1
  have hx2 : xSh S2 := hx1.ent g2 (Or.inl rfl) p2 (fun z => absurd z (by decide))
  have i84 : ∀ y, im y → ¬ y = 84 := fun y z w => by have := him y z; omega
  have hcl92 : clI S2 im 94 c b9 98 0 st2 := hcl91.gf g2 (by omega) i84 (by decide) (by decide) (by decide) (by decide)
  have e2d := (g2.2.2.2 d (by omega) (i84 d hdim)).1
  have n2 : sn S1 ≤ sn S2 := g2.2.1
  refine x_aload_n 14 0 (ab_dd tk_s_board 7 rfl) rfl rfl rfl ?_
  refine t_getP 17 94 (ab_dd tk_s_board 8 rfl) rfl F_s_81 (by decide) (Nat.lt_of_lt_of_le (by decide) hx2.1) (hx2.2.1 0 (by decide)) rfl (hx2.2.2 (50, 13, 94) (by decide)) ?_
  refine x_aload_n 18 1 (ab_dd tk_s_board 9 rfl) rfl rfl rfl ?_
  refine t_callV 21 M_cl_enter 0 1 [_] (ab_dd tk_s_board 10 rfl) rfl (by first | decide | omega) K_cl_enter V_cl_enter.1 V_cl_enter.2 L_s_100 rfl (Nat.le_of_ble_eq_true rfl) (by decide) (Nat.lt_of_lt_of_le (by decide) hx2.1) (hx2.2.1 44 (by decide)) rfl (c_cl_enter (by rw [g2.1, g1.1]; exact kc) (by omega) (hx2.cl (Or.inr rfl)) him (fun y z => by have := hil y z; omega) hcl92 (by omega) hb1 hcl2.1 (by rw [e2d, i1]; exact h3) (by rw [e2d, i1]; exact h2)) (fun v1 w1 h1 => ?_)
  obtain ⟨rfl, S3, bh3, nb3, rfl, g3, hcl3, r3, p3, alt3⟩ := h1
  have e294 : sI S2 94 1 = 0 := by rw [(g2.2.2.2 94 (by omega) (by decide)).1, i1]; exact hr94
  obtain ⟨y1, y2, n3, z3⟩ := alt3.resolve_right (fun z => z.1 e294)
  rw [y1, y2] at hcl3
  have hx3 : xSh S3 := hx2.ent g3 (Or.inr rfl) p3 (fun _ => hcl3.2.2.2.2.2.2.1)
  have i94 : ∀ y, im y → ¬ y = 94 := fun y z w => by have := him y z; omega
  refine x_aload_n 22 0 (ab_dd tk_s_board 11 rfl) rfl rfl rfl ?_
  refine t_getP 25 57 (ab_dd tk_s_board 12 rfl) rfl F_s_37 (by decide) (Nat.lt_of_lt_of_le (by decide) hx3.1) (hx3.2.1 0 (by decide)) rfl (hx3.2.2 (50, 5, 57) (by decide)) ?_
  refine t_callV 28 M_pa_forget 0 0 [] (ab_dd tk_s_board 13 rfl) rfl (by first | decide | omega) K_pa_forget V_pa_forget.1 V_pa_forget.2 L_s_124 rfl (Nat.le_of_ble_eq_true rfl) (by decide) (Nat.lt_of_lt_of_le (by decide) hx3.1) (hx3.2.1 7 (by decide)) rfl (c_pa_forget hx3) (fun v1 w1 h1 => ?_)
  obtain ⟨rfl, rfl⟩ := h1
  obtain ⟨S4, hS4⟩ : ∃ S4, S4 = pI S3 57 2 (nI 0) := ⟨_, rfl⟩
  rw [← hS4]
  have hE4 : sEq [57] S3 S4 := by rw [hS4]; exact sEq.rf.pI (List.Mem.head _)
  have gT : gF (fun y => y = 50 ∨ y = 57 ∨ y = 84 ∨ y = 94) S S4 := (((g1.mono (fun y _ z => Or.inl z)).tr (g2.mono (fun y _ z => Or.inr (Or.inr (Or.inl z))))).tr (g3.mono (fun y _ z => Or.inr (Or.inr (Or.inr z))))).tr ((gF.sE hE4).mono (fun y _ z => Or.inr (Or.inl (List.mem_singleton.mp z))))
  have hb2 : (bh2 = 88 ∨ bh2 = 119 ∨ 145 ≤ bh2) := hcl2.2.2.2.2.2.2.2.2.2.2.2.1
  have hbb : bh2 = bh ∨ bh2 = sn S := by omega
  have g24 : gF (fun y => y = 94 ∨ y = 57) S2 S4 := (g3.mono (fun y _ z => Or.inl z)).tr ((gF.sE hE4).mono (fun y _ z => Or.inr (List.mem_singleton.mp z)))
  have i9457 : ∀ y, im y → ¬ (y = 94 ∨ y = 57) := fun y z w => by have := him y z; omega
  have hcl4 : clI S4 im 84 d b1 bh2 nb2 (st + 1) := hcl2.gf g24 (by omega) i9457 (by decide) (by omega) (by decide) (by decide)
  have hcl94 : clI S4 im 94 d b1 98 0 (st2 + 1) := hcl3.eq hE4 (by decide) (fun y z w => by have := him y w; have := List.mem_singleton.mp z; omega) (by decide) (by decide) (by decide)
  have c50 : sI S4 50 = sI S 50 ∧ sP S4 50 = sP S1 50 := by
    have w2 := g2.2.2.2 50 (by omega) (by decide)
    have w4 := g24.2.2.2 50 (by omega) (by decide)
    exact ⟨w4.1.trans (w2.1.trans (by rw [i1])), w4.2.2.trans w2.2.2⟩
  have hsz : szN nb2 := by
    rcases alt2 with ⟨-, q, -⟩ | ⟨-, -, -, q, -⟩
    · rw [q]; exact hnb
    · rw [q]; exact ⟨aR b1, hb1.R.2, rfl⟩
  have e104 := (gT.2.2.2 104 (by omega) (by decide)).2.2
  have e84 : sI S4 84 1 = 1 := by rw [(g24.2.2.2 84 (by omega) (by decide)).1, r2, i1]; exact hr84
  have e94 : sI S4 94 1 = 0 := by rw [hE4.2.2.1 94 (by decide), r3]; exact e294
  have hq1 : sn S4 = sn S3 := hE4.2.2.2.2.2.1
  have hq2 : sz S4 = sz S3 := hE4.2.2.2.2.2.2
  have hB4 : kBd S4 im a1 d b1 bh2 nb2 (st + 1) (st2 + 1) (u + 1) := ⟨hx3.eq hE4, hse.gf gT (by omega) (fun y y1 y2 z => by omega), by rw [gT.1]; exact kc, ⟨him, fun y z => Nat.lt_of_lt_of_le (hil y z) gT.2.1, Nat.le_trans h145 gT.2.1⟩, ha1, by rw [c50.2]; exact p12, ⟨hb1, hs1, hcl4, hsz⟩, ⟨b1, hb1, hs1, hcl94⟩, ⟨e84, e94⟩, by unfold idR; rw [e104]; exact hid, hrf.bd gT (by rw [c50.2]; exact p1 15 (by decide)) (by rw [c50.2]; exact p1 16 (by decide)) hbb (by omega) (by omega), by omega, by omega⟩
  have hp4 : paI S4 n 0 f := by
    obtain ⟨u1, u2, u3, u4, u5⟩ := hp
    have g13 : gF (fun y => y = 50 ∨ y = 84 ∨ y = 94) S S3 := ((g1.mono (fun y _ z => Or.inl z)).tr (g2.mono (fun y _ z => Or.inr (Or.inl z)))).tr (g3.mono (fun y _ z => Or.inr (Or.inr z)))
    refine ⟨?_, u2, by rw [hS4]; exact gI_s, by decide, fun i hi => ((u5 i hi).gf g13 (by omega) (by omega)).eq hE4 (by simp only [List.mem_singleton]; omega)⟩
    rw [hS4, gI_k (by decide), (g13.2.2.2 57 (by omega) (by decide)).1]
    exact u1
  exact x_vret (ab_dd tk_s_board 14 rfl) ⟨rfl, S4, bh2, nb2, rfl, gT, c50.1, fun k hk => by rw [c50.2]; exact p1 k hk, hB4, hp4, by
      rcases alt2 with ⟨q1, q2, q3, q4⟩ | ⟨-, q0, q1, q2, q3, q4⟩
      · exact Or.inl ⟨q1, q2, by omega, by omega⟩
      · exact Or.inr ⟨q0, by omega, q2, by omega, by omega⟩⟩
