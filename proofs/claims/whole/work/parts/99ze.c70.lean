/-! ===== forces, best ===== -/
theorem rfB.nwF {S S1 : ab_S} {im : Nat → Prop} {a : Nat → Int32} {c bh nb st st2 u r N k rs m z : Nat} (h : kBd S im a c a bh nb st st2 u) (hR : rfB S im bh st a u r N k rs) (hrs : rs < 2 ^ 31) (g : grE S S1 m z) (hO : foK S1 (sn S) N) (h5 : sI S1 (sn S) 5 = -1) : kBd (pP S1 50 16 (some (sn S))) im a c a bh nb st st2 u ∧ rfB (pP S1 50 16 (some (sn S))) im bh st a u r N k rs ∧ fAs im bh S (pP S1 50 16 (some (sn S))) := by
  obtain ⟨q1, q2⟩ := h.bh
  obtain ⟨x1, x2, x3, ⟨x4, x5, x6⟩, x7, x8, ⟨x9, x10, x11, x12⟩, x13, ⟨x14, x15⟩, x16, x17, x18, x19⟩ := h
  have hbn : bh < sn S := x11.2.2.2.2.2.2.2.1.2
  have g' : gF (fun y => y = 50) S (pP S1 50 16 (some (sn S))) := ((gF.gr g).mono (fun _ _ z => z.elim)).pP rfl
  have g1 : gF (fun y => y = 50) S1 (pP S1 50 16 (some (sn S))) := gF.rf.pP rfl
  have i50 : ∀ y, im y → ¬ y = 50 := fun y z w => by have := x4 y z; omega
  have e50 := (g.2.2.2 50 (by omega)).2.2.2
  have e84 := (g'.2.2.2 84 (by omega) (by decide)).1
  have e94 := (g'.2.2.2 94 (by omega) (by decide)).1
  have e104 := (g'.2.2.2 104 (by omega) (by decide)).2.2
  obtain ⟨r1, r2, r3, r4, r5, r6, r7, r8, r9, r10⟩ := hR
  have hr := r4.1
  have hr2 := r4.2.1
  have er := (g'.2.2.2 r (by omega) (by omega)).1
  have p15 : sP (pP S1 50 16 (some (sn S))) 50 15 = some r := (gP_k (by decide)).trans (by rw [e50]; exact r1)
  have hcl : clI (pP S1 50 16 (some (sn S))) im 84 c a bh nb st := x11.gf g' (by omega) i50 (by decide) (by omega) (by decide) (by decide)
  have hR' : rfB (pP S1 50 16 (some (sn S))) im bh st a u r N k rs := by
    refine ⟨p15, r2, r3, r4.gf g' (by omega), r5, by rw [er]; exact r6, r7, by rw [er]; exact r8, r9.gf g' r4.2.1 (fun y y1 y2 w => by have w : y = 50 := w; omega), Or.inr ⟨sn S, N, gP_s, fun y y1 y2 w => by have := x5 y w; omega, Or.inl (by omega), Or.inr (by omega), hO.gf g1 (by omega), r5, Nat.le_refl _, fun _ => ⟨Or.inl h5, fun w => ?_⟩⟩⟩
    have w2 : nI rs = -1 := w.symm.trans h5
    exact (nI_m1 hrs w2).elim
  refine ⟨⟨(x1.gr g).r50 (Or.inr rfl), x2.gf g' (by omega) (fun y y1 y2 w => by have w : y = 50 := w; omega), by rw [g'.1]; exact x3, ⟨x4, fun y w => Nat.lt_of_lt_of_le (x5 y w) g'.2.1, Nat.le_trans x6 g'.2.1⟩, x7, (gP_k (by decide)).trans (by rw [e50]; exact x8), ⟨x9, x10, hcl, x12⟩, x13.gf g' (by omega) i50 (by decide) (by decide) (by decide) (by decide), ⟨by rw [e84]; exact x14, by rw [e94]; exact x15⟩, by unfold idR; rw [e104]; exact x16, hR'.K x7.1 hcl.2.2.2.2.2.1.2, x18, x19⟩, hR', ⟨g'.mono (fun y _ z => Or.inl z), (g.2.2.2 50 (by omega)).2.1, fun k y1 y2 => (gP_k y2).trans (by rw [e50])⟩⟩
theorem gA.nwF {S S1 : ab_S} {im : Nat → Prop} {a : Nat → Int32} {c bh nb st st2 u r N k rs : Nat} (h : kBd S im a c a bh nb st st2 u) (hR : rfB S im bh st a u r N k rs) (g : grE S S1 6 (9 + 10 * N)) (hO : foK S1 (sn S) N) (hold : szL S (sP S 50 16) 3 < N) : gA S (pP S1 50 16 (some (sn S))) 0 0 := by
  obtain ⟨x1, x2, x3, ⟨x4, x5, x6⟩, x7, x8, ⟨x9, x10, x11, x12⟩, x13, ⟨x14, x15⟩, x16, x17, x18, x19⟩ := h
  have e50 := (g.2.2.2 50 (by omega)).2.2.2
  have p84 : sP (pP S1 50 16 (some (sn S))) 84 = sP S 84 := (gP_o (by decide)).trans (g.2.2.2 84 (by omega)).2.2.2
  have p15 : sP (pP S1 50 16 (some (sn S))) 50 15 = sP S 50 15 := (gP_k (by decide)).trans (by rw [e50])
  have eB : szL (pP S1 50 16 (some (sn S))) (sP (pP S1 50 16 (some (sn S))) 84 6) 0 = szL S (sP S 84 6) 0 := by
    rw [p84]
    refine szL.kp (fun q e => (g.2.2.2 _ ?_).1)
    rw [x11.2.2.2.2.2.2.1] at e
    have := Option.some.inj e
    have := x11.2.2.2.2.2.2.2.1.2
    omega
  have eR : szL (pP S1 50 16 (some (sn S))) (sP (pP S1 50 16 (some (sn S))) 50 15) 1 = szL S (sP S 50 15) 1 := by
    rw [p15]
    refine szL.kp (fun q e => (g.2.2.2 _ ?_).1)
    rw [hR.1] at e
    have := Option.some.inj e
    have := hR.2.2.2.1.2.1
    omega
  have eF : szL (pP S1 50 16 (some (sn S))) (sP (pP S1 50 16 (some (sn S))) 50 16) 3 = N := by
    unfold szL
    rw [show sP (pP S1 50 16 (some (sn S))) 50 16 = some (sn S) from gP_s]
    show (match sK S1 (sn S + 3) with | .inl (_, N) => N | .inr _ => 0) = N
    rw [hO.2.2.2.2.2.1]
  have hv := lvl_lt hR.2.2.2.2.1 hold
  have hs := hR.2.2.2.2.1.cs
  have n1 : sn (pP S1 50 16 (some (sn S))) = sn S + 6 := g.2.1
  have n2 : sz (pP S1 50 16 (some (sn S))) = sz S + (9 + 10 * N) := g.2.2.1
  unfold gA cA zA
  rw [eB, eR, eF, n1, n2]
  omega
theorem rfB.fo {S S' : ab_S} {im : Nat → Prop} {a : Nat → Int32} {c bh nb st st2 u r N k rs F p h T : Nat} (hB : kBd S im a c a bh nb st st2 u) (hR : rfB S im bh st a u r N k rs) (hE : sEq [F, F + 1, F + 2, F + 3, F + 4, F + 5] S S') (p16 : sP S 50 16 = some F) (hKF : foK S F N) (hiF : ∀ y, F ≤ y → y ≤ F + 5 → ¬ im y) (hbF : bh < F ∨ F + 5 < bh) (hrF : F + 5 < r ∨ r + 7 < F) (h5 : sI S' F 5 = nI rs) (h6 : sI S' F 6 = nI p) (h7 : sI S' F 7 = nI h) (hp4 : p < 4) (hh : h < 2 ^ 31) (hT : (cL a T).length = T) (hD : foD S' F T (gI a T) (gV a T p h)) : kBd S' im a c a bh nb st st2 u ∧ rfB S' im bh st a u r N k rs ∧ fAs im bh S S' ∧ gA S S' 0 0 := by
  obtain ⟨q1, q2⟩ := hB.bh
  have hB0 := hB
  obtain ⟨x1, x2, x3, ⟨x4, x5, x6⟩, x7, x8, ⟨x9, x10, x11, x12⟩, -⟩ := hB0
  have hF := hKF.1
  have hl : ∀ y, y ∈ [F, F + 1, F + 2, F + 3, F + 4, F + 5] → F ≤ y ∧ y ≤ F + 5 := fun y z => by
    simp only [List.mem_cons, List.not_mem_nil, or_false] at z
    omega
  have n : ∀ y, y < F ∨ F + 5 < y → y ∉ [F, F + 1, F + 2, F + 3, F + 4, F + 5] := fun y y1 z => by have := hl y z; omega
  obtain ⟨r1, r2, r3, r4, r5, r6, r7, r8, r9, r10⟩ := hR
  have hr := r4.1
  have hr2 := r4.2.1
  have er := hE.2.2.1 r (n r (by omega))
  have hcl : clI S' im 84 c a bh nb st := x11.eq hE (n _ (by omega)) (fun y hy => hiF y (hl y hy).1 (hl y hy).2) (n _ (by omega)) (n _ (by omega)) (n _ (by omega))
  have hR' : rfB S' im bh st a u r N k rs := by
    refine ⟨by rw [hE.2.2.2.2.1]; exact r1, r2, r3, r4.eq hE, r5, by rw [er]; exact r6, r7, by rw [er]; exact r8, r9.gf (gF.sE hE) hr2 (fun y y1 y2 => n y (by omega)), Or.inr ⟨F, N, by rw [hE.2.2.2.2.1]; exact p16, hiF, hbF, hrF, hKF.eq hE, r5, Nat.le_refl _, fun _ => ⟨Or.inr ⟨rs, Nat.le_refl _, h5⟩, fun _ => ⟨by decide, fun p' h' T' z1 z2 z3 z4 z5 => ?_⟩⟩⟩⟩
    have e1 : p' = p := (nI_eq (by omega) (by omega)).mp (z2.symm.trans h6)
    have e2 : h' = h := (nI_eq z3 hh).mp (z4.symm.trans h7)
    have t1 := cL_lt hT (Nat.le_of_eq z5.symm)
    have t2 := cL_lt z5 (Nat.le_of_eq hT.symm)
    rw [e1, e2, show T' = T by omega]
    exact hD
  exact ⟨hB.ro (gF.sE hE) (x1.eq hE) (fun y z => Or.inr (Or.inr ⟨by have := hl y z; omega, hiF y (hl y z).1 (hl y z).2⟩)) hcl (by rw [hE.2.2.1 84 (n _ (by omega))]) (hR'.K x7.1 hcl.2.2.2.2.2.1.2) (Nat.le_refl _), hR', fAs.of (gF.sE hE) (by omega) (fun y _ z => Or.inr (Or.inr (Or.inr ⟨by have := hl y z; omega, hiF y (hl y z).1 (hl y z).2⟩))) (by omega), gA.sE hE⟩
theorem bs_W {g : Nat → Nat → Option Nat} {W : Nat → Prop} (h : W 0) : bsR g W 0 (-1) := Or.inr ⟨fun n z => z.2.2 (fw_W n true 0 h), rfl⟩
theorem few_c {S : ab_S} {a : Nat → Int32} {F T p h : Nat} (ha : aOk a) (hT : (cL a T).length = T) (hT0 : 0 < T) (hD : foD S F T (gI a T) (gV a T p h)) : fstM (fun m => m < gFAR ∧ fw (gI a T) (gV a T p h) m true 0) (sI S (F + 1) 0) := by
  obtain ⟨R, h1, h2, h3, h4⟩ := hD
  have h15 := cL_15 ha T
  rw [h1 0 (by omega)]
  rcases hR : R 0 with _ | n
  · exact Or.inr ⟨fun m hm => h2 hR m hm.2, rfl⟩
  · obtain ⟨k1, k2, k3, -⟩ := h4 n hR
    exact Or.inl ⟨n, ⟨by unfold gFAR; omega, k2⟩, fun j hj z => k3 j hj z.2, rfl⟩
theorem c_cl_supposeS {G : ab_G} {S : ab_S} (hx : xSh S) {im : Nat → Prop} {c bh nb st : Nat} {a : Nat → Int32} (hcl : clI S im 84 c a bh nb st) (ha : aOk a) : ab_C G 0 M_cl_suppose [.ref 84, .int (nI (seaC a)), .int (a 40)] (sw S) (fun v w' => v = none ∧ w' = sw S) := by
  refine x_enter [some (.ref 84), some (.int (nI (seaC a))), some (.int (a 40))] (by decide) (Nat.le_of_ble_eq_true rfl) rfl (fun v w' h => by obtain ⟨rfl, -⟩ := h; trivial) ?_
  obtain ⟨-, -, a3, a4, -⟩ := hcl
  have hsl := seaC_lt ha
  refine x_iload_n 1 1 (ab_dd tk_cl_suppose 0 rfl) rfl rfl rfl ?_
  refine x_aload_n 2 0 (ab_dd tk_cl_suppose 1 rfl) rfl rfl rfl ?_
  refine t_getI 5 (ab_dd tk_cl_suppose 2 rfl) rfl F_cl_18 (by decide) (Nat.lt_of_lt_of_le (by decide) hx.1) (hx.2.1 34 (by decide)) rfl (x_topn (seaC a) a3 ?_)
  refine x_icmp_ne_f 8 (ab_dd tk_cl_suppose 3 rfl) rfl 16 (by decide) ((nI_eq (a := (seaC a)) (b := (seaC a)) (by omega) (by omega)).mpr (show (seaC a) = (seaC a) by rfl)) ?_
  refine x_iload_n 9 2 (ab_dd tk_cl_suppose 4 rfl) rfl rfl rfl ?_
  refine x_aload_n 10 0 (ab_dd tk_cl_suppose 5 rfl) rfl rfl rfl ?_
  refine t_getI 13 (ab_dd tk_cl_suppose 6 rfl) rfl F_cl_22 (by decide) (Nat.lt_of_lt_of_le (by decide) hx.1) (hx.2.1 34 (by decide)) rfl (x_topx (a 40) a4 ?_)
  refine x_icmp_eq_t 36 (ab_dd tk_cl_suppose 7 rfl) (by decide) rfl ?_
  exact x_vret (ab_dd tk_cl_suppose 20 rfl) ⟨rfl, rfl⟩
theorem b_s_lawsNowS {G : ab_G} {S : ab_S} {im : Nat → Prop} {a : Nat → Int32} {c bh nb st st2 u : Nat} (h : kBd S im a c a bh nb st st2 u) (ht : sdE S 55 (rowT a)) : ab_C G 1 M_s_lawsNow [.ref 50] (sw S) (fun v w' => v = some (.ref 84) ∧ w' = sw S) := by
  refine x_enter [some (.ref 50)] (by decide) (Nat.le_of_ble_eq_true rfl) rfl (fun v w' h => by obtain ⟨rfl, rfl⟩ := h; trivial) ?_
  have hbh := h.bh.1
  have h0 := h
  obtain ⟨hx, hse, kc, ⟨him, hil, h145⟩, ha, hc, ⟨hb1, hb2, hcl, hnb⟩, hcl9, -, hid, -, hu1, hu2⟩ := h0
  have h40 : sI S 55 3 = a 40 := ht.2.2.2.1.trans ha.1.m40.1.symm
  refine x_aload_n 1 0 (ab_dd tk_s_lawsNow 0 rfl) rfl rfl rfl ?_
  refine t_getP 4 84 (ab_dd tk_s_lawsNow 1 rfl) rfl F_s_77 (by decide) (Nat.lt_of_lt_of_le (by decide) hx.1) (hx.2.1 0 (by decide)) rfl (hx.2.2 (50, 12, 84) (by decide)) ?_
  refine x_aload_n 5 0 (ab_dd tk_s_lawsNow 2 rfl) rfl rfl rfl ?_
  refine t_getP 8 55 (ab_dd tk_s_lawsNow 3 rfl) rfl F_s_27 (by decide) (Nat.lt_of_lt_of_le (by decide) hx.1) (hx.2.1 0 (by decide)) rfl (hx.2.2 (50, 3, 55) (by decide)) ?_
  refine t_getI 11 (ab_dd tk_s_lawsNow 4 rfl) rfl F_s_134 (by decide) (Nat.lt_of_lt_of_le (by decide) hx.1) (hx.2.1 5 (by decide)) rfl (x_topn (seaC a) ht.1 ?_)
  refine x_aload_n 12 0 (ab_dd tk_s_lawsNow 5 rfl) rfl rfl rfl ?_
  refine t_getP 15 55 (ab_dd tk_s_lawsNow 6 rfl) rfl F_s_27 (by decide) (Nat.lt_of_lt_of_le (by decide) hx.1) (hx.2.1 0 (by decide)) rfl (hx.2.2 (50, 3, 55) (by decide)) ?_
  refine t_getI 18 (ab_dd tk_s_lawsNow 7 rfl) rfl F_s_180 (by decide) (Nat.lt_of_lt_of_le (by decide) hx.1) (hx.2.1 5 (by decide)) rfl (x_topx (a 40) h40 ?_)
  refine t_callV 21 M_cl_suppose 0 2 [_, _] (ab_dd tk_s_lawsNow 8 rfl) rfl (by first | decide | omega) K_cl_suppose V_cl_suppose.1 V_cl_suppose.2 L_s_183 rfl (Nat.le_of_ble_eq_true rfl) (by decide) (Nat.lt_of_lt_of_le (by decide) hx.1) (hx.2.1 34 (by decide)) rfl (c_cl_supposeS hx hcl ha.1) (fun v1 w1 h1 => ?_)
  obtain ⟨rfl, rfl⟩ := h1
  refine x_aload_n 22 0 (ab_dd tk_s_lawsNow 9 rfl) rfl rfl rfl ?_
  refine t_getP 25 84 (ab_dd tk_s_lawsNow 10 rfl) rfl F_s_77 (by decide) (Nat.lt_of_lt_of_le (by decide) hx.1) (hx.2.1 0 (by decide)) rfl (hx.2.2 (50, 12, 84) (by decide)) ?_
  exact x_aret (ab_dd tk_s_lawsNow 11 rfl) ⟨rfl, rfl⟩
theorem c_ro_begS {G : ab_G} {S : ab_S} (hx : xSh S) (kc : kSh S.1) {im : Nat → Prop} {c bh nb st u : Nat} {a : Nat → Int32} (hK : clK S 84) (hcl : clI S im 84 c a bh nb st) {r N k rs : Nat} (ha : aGood a) (hR0 : rfB S im bh st a u r N k rs) : ab_C G 1 M_ro_begin [.ref r, .ref 84, .int (nI (aW a)), .int (nI (aQ a))] (sw S) (fun v w' => v = none ∧ w' = sw S) := by
  refine x_enter [some (.ref r), some (.ref 84), some (.int (nI (aW a))), some (.int (nI (aQ a))), none] (by decide) (Nat.le_of_ble_eq_true rfl) rfl (fun v w' h => by obtain ⟨rfl, -⟩ := h; trivial) ?_
  obtain ⟨-, hri, -, hO, -, -, -, h9, hI, -⟩ := hR0
  have hN15 : N ≤ 15000 := hO.2.2.2.2.2.2.2.2.2.2.2.2.2.2.2.2.2.2
  have hr145 := hO.1
  have h50 : 50 ≤ sn S := Nat.le_trans (by decide) hx.1
  have hR := ha.1.R.2
  obtain ⟨a1, a2, a3, a4, a5, a6, a7, a8, a9, a10, a11, a12, b1, b2, b3⟩ := hcl
  have hk := a1.1
  have c1 := a1.2.1
  have hvc : vC a (aQ a * 5 ^ aR a + aW a) := (vC_mk (rowT_in ha.1).1 (rowT_in ha.1).2.1).1
  unfold vC at hvc
  have hcr : c ≠ r := fun z => hri r (Nat.le_refl _) (Nat.le_add_right _ _) (z ▸ hk.2.2.2.2.2.2.2.1)
  have hNb := hI.2.2.2.2.2.2.2.2
  have hp0 := (bfB_pos (nx := nxC a) (c0 := aQ a * 5 ^ aR a + aW a) k)
  have hl0 : 0 < (cL a k).length := hp0.1
  have hl15 := cL_15 ha.1 k
  have hc0 : sI S (r + 1) 0 = nI (aQ a * 5 ^ aR a + aW a) := by rw [hI.1.2.1 0 hp0.1]; exact congrArg nI hp0.2
  have hfn : sI (pI S r 10 (nI (5 ^ aR a))) = sI S := by
    funext u j
    by_cases y : u = r
    · by_cases z : j = 10
      · rw [y, z, gI_s]; exact hI.2.2.2.1.symm
      · rw [gI_k z]
    · rw [gI_o y]
  have hSS : pI S r 10 (nI (5 ^ aR a)) = S := by
    show (S.1, sK S, sI (pI S r 10 (nI (5 ^ aR a))), sJ S, sP S, sn S, sz S) = S
    rw [hfn]
  refine x_aload_n 1 0 (ab_dd tk_ro_begin 0 rfl) rfl rfl rfl ?_
  refine x_getsN 4 (ab_dd tk_ro_begin 1 rfl) rfl (List.mem_of_getElem? (i := 0) rfl) F_ro_60 ?_
  refine x_aload_n 5 1 (ab_dd tk_ro_begin 2 rfl) rfl rfl rfl ?_
  refine t_getP 8 c (ab_dd tk_ro_begin 3 rfl) rfl F_ro_63 (by decide) (Nat.lt_of_lt_of_le (by decide) hx.1) (hx.2.1 34 (by decide)) rfl a2 ?_
  refine t_getI 11 (ab_dd tk_ro_begin 4 rfl) rfl F_ro_69 hk.1 (Nat.lt_of_le_of_lt (Nat.le_add_right c 2) hk.2.1) hk.2.2.1 rfl (x_topn (aR a) c1 ?_)
  refine t_ialdK 12 (aR a) (ab_dd tk_ro_begin 5 rfl) rfl (by decide) h50 (kc.2.1) rfl (by omega) (by decide) (x_topn (5 ^ aR a) (kPw_N _ (by omega)) ?_)
  refine t_putI 15 (ab_dd tk_ro_begin 6 rfl) rfl F_ro_19 (by have := hO.1; omega) (Nat.lt_of_le_of_lt (Nat.le_add_right r 7) hO.2.1) hO.2.2.1 rfl rfl rfl ?_
  refine x_iload_n 16 3 (ab_dd tk_ro_begin 7 rfl) rfl rfl rfl ?_
  refine x_aload_n 17 0 (ab_dd tk_ro_begin 8 rfl) rfl rfl rfl ?_
  refine t_getI 20 (ab_dd tk_ro_begin 9 rfl) rfl F_ro_19 (by have := hO.1; omega) (Nat.lt_of_le_of_lt (Nat.le_add_right r 7) hO.2.1) hO.2.2.1 rfl (x_topn (5 ^ aR a) gI_s ?_)
  refine x_imul 21 (ab_dd tk_ro_begin 10 rfl) rfl (x_topn ((aQ a) * (5 ^ aR a)) (pk_mul _ _) ?_)
  refine x_iload_n 22 2 (ab_dd tk_ro_begin 11 rfl) rfl rfl rfl ?_
  refine x_iadd 23 (ab_dd tk_ro_begin 12 rfl) rfl (x_topn (((aQ a) * (5 ^ aR a)) + (aW a)) (nI_add _ _) ?_)
  refine x_istore 25 [some (.ref r), some (.ref 84), some (.int (nI (aW a))), some (.int (nI (aQ a))), some (.int (nI (((aQ a) * (5 ^ aR a)) + (aW a))))] 4 (ab_dd tk_ro_begin 13 rfl) rfl (by decide) rfl ?_
  refine x_aload_n 26 1 (ab_dd tk_ro_begin 14 rfl) rfl rfl rfl ?_
  refine t_getI 29 (ab_dd tk_ro_begin 15 rfl) rfl F_ro_72 (by decide) (Nat.lt_of_lt_of_le (by decide) hx.1) (hx.2.1 34 (by decide)) rfl (x_topn st ((gI_a (by omega)).trans a5) ?_)
  refine x_aload_n 30 0 (ab_dd tk_ro_begin 16 rfl) rfl rfl rfl ?_
  refine t_getI 33 (ab_dd tk_ro_begin 17 rfl) rfl F_ro_15 (by have := hO.1; omega) (Nat.lt_of_le_of_lt (Nat.le_add_right r 7) hO.2.1) hO.2.2.1 rfl (x_topn st ((gI_k (by decide)).trans h9) ?_)
  refine x_icmp_ne_f 36 (ab_dd tk_ro_begin 18 rfl) rfl 55 (by decide) ((nI_eq (a := st) (b := st) (by omega) (by omega)).mpr (show st = st by rfl)) ?_
  refine x_aload_n 37 0 (ab_dd tk_ro_begin 19 rfl) rfl rfl rfl ?_
  refine t_getI 40 (ab_dd tk_ro_begin 20 rfl) rfl F_ro_25 (by have := hO.1; omega) (Nat.lt_of_le_of_lt (Nat.le_add_right r 7) hO.2.1) hO.2.2.1 rfl (x_topn ((cL a k).length) ((gI_k (by decide)).trans hI.1.1) ?_)
  refine x_if_le_f 43 (ab_dd tk_ro_begin 21 rfl) rfl 55 (by decide) (fun z => absurd ((nI_leI (a := ((cL a k).length)) (b := 0) (by omega) (by omega)).mp z) (show ¬ (((cL a k).length) ≤ 0) by omega)) ?_
  refine x_aload_n 44 0 (ab_dd tk_ro_begin 22 rfl) rfl rfl rfl ?_
  refine t_getP 47 (r + 1) (ab_dd tk_ro_begin 23 rfl) rfl F_ro_38 (by have := hO.1; omega) (Nat.lt_of_le_of_lt (Nat.le_add_right r 7) hO.2.1) hO.2.2.1 rfl hO.2.2.2.2.2.2.2.2.2.2.2.1 ?_
  refine x_iconst 48 0 (ab_dd tk_ro_begin 24 rfl) rfl (by decide) (x_topn 0 rfl ?_)
  refine t_iald 49 0 (ab_dd tk_ro_begin 25 rfl) rfl (by have := hO.1; omega) (Nat.lt_of_le_of_lt (Nat.add_le_add_left (by decide) r) hO.2.1) hO.2.2.2.1 rfl (by omega) (by omega) (x_topn (aQ a * 5 ^ aR a + aW a) ((congrFun (gI_o (by omega)) _).trans hc0) ?_)
  refine x_iload 51 4 (ab_dd tk_ro_begin 26 rfl) rfl rfl ?_
  refine x_icmp_ne_f 54 (ab_dd tk_ro_begin 27 rfl) rfl 55 (by decide) ((nI_eq (a := (aQ a * 5 ^ aR a + aW a)) (b := (((aQ a) * (5 ^ aR a)) + (aW a))) (by omega) (by omega)).mpr (show (aQ a * 5 ^ aR a + aW a) = (((aQ a) * (5 ^ aR a)) + (aW a)) by rfl)) ?_
  exact x_vret (ab_dd tk_ro_begin 28 rfl) ⟨rfl, by rw [hSS]⟩
theorem b_s_rowsNowS {G : ab_G} {S : ab_S} {im : Nat → Prop} {a : Nat → Int32} {c bh nb st st2 u : Nat} (h : kBd S im a c a bh nb st st2 u) (ht : sdE S 55 (rowT a)) {r N k rs : Nat} (hR0 : rfB S im bh st a u r N k rs) : ab_C G 3 M_s_rowsNow [.ref 50] (sw S) (fun v w' => v = some (.ref r) ∧ w' = sw S) := by
  refine x_enter [some (.ref 50), none] (by decide) (Nat.le_of_ble_eq_true rfl) rfl (fun v w' h => by obtain ⟨rfl, rfl⟩ := h; trivial) ?_
  have hbh := h.bh.1
  have h0 := h
  obtain ⟨hx, hse, kc, ⟨him, hil, h145⟩, ha, hc, ⟨hb1, hb2, hcl, hnb⟩, hcl9, -, hid, -, hu1, hu2⟩ := h0
  have h40 : sI S 55 3 = a 40 := ht.2.2.2.1.trans ha.1.m40.1.symm
  obtain ⟨hk, c1, -⟩ := hcl.1
  have hR := ha.1.R.2
  have hN15 : (kFc (aR a) * 5 ^ aR a) ≤ 15000 := kFc_15 hR
  have h50 : 50 ≤ sn S := by omega
  have hK := hR0.2.2.2.1
  have hr145 := hK.1
  have hN31 : N ≤ 15000 := hK.2.2.2.2.2.2.2.2.2.2.2.2.2.2.2.2.2.2
  have hNb : (kFc (aR a) * 5 ^ aR a) ≤ N := hR0.2.2.2.2.2.2.2.2.1.2.2.2.2.2.2.2.2
  refine x_gets 3 (ab_dd tk_s_rowsNow 0 rfl) rfl (List.mem_of_getElem? (i := 0) rfl) F_s_322 ?_
  refine x_aload_n 4 0 (ab_dd tk_s_rowsNow 1 rfl) rfl rfl rfl ?_
  refine t_getP 7 c (ab_dd tk_s_rowsNow 2 rfl) rfl F_s_20 (by decide) (Nat.lt_of_lt_of_le (by decide) hx.1) (hx.2.1 0 (by decide)) rfl hc ?_
  refine t_getI 10 (ab_dd tk_s_rowsNow 3 rfl) rfl F_s_177 hk.1 (Nat.lt_of_le_of_lt (Nat.le_add_right c 2) hk.2.1) hk.2.2.1 rfl (x_topn (aR a) c1 ?_)
  refine t_ialdK 11 (aR a) (ab_dd tk_s_rowsNow 4 rfl) rfl (by decide) h50 (kc.2.1) rfl (by omega) (by decide) (x_topn (kPw (aR a)) (kPw_N (aR a) (by omega)) ?_)
  refine x_gets 14 (ab_dd tk_s_rowsNow 5 rfl) rfl (List.mem_of_getElem? (i := 1) rfl) F_s_325 ?_
  refine x_aload_n 15 0 (ab_dd tk_s_rowsNow 6 rfl) rfl rfl rfl ?_
  refine t_getP 18 c (ab_dd tk_s_rowsNow 7 rfl) rfl F_s_20 (by decide) (Nat.lt_of_lt_of_le (by decide) hx.1) (hx.2.1 0 (by decide)) rfl hc ?_
  refine t_getI 21 (ab_dd tk_s_rowsNow 8 rfl) rfl F_s_177 hk.1 (Nat.lt_of_le_of_lt (Nat.le_add_right c 2) hk.2.1) hk.2.2.1 rfl (x_topn (aR a) c1 ?_)
  refine t_ialdK 22 (aR a) (ab_dd tk_s_rowsNow 9 rfl) rfl (by decide) h50 (kc.2.2) rfl (by omega) (by decide) (x_topn (kFc (aR a)) (kFc_N (aR a) (by omega)) ?_)
  refine x_imul 23 (ab_dd tk_s_rowsNow 10 rfl) rfl (x_topn (kFc (aR a) * 5 ^ aR a) (by rw [pk_mul, Nat.mul_comm]; rfl) ?_)
  refine x_istore_n 24 [some (.ref 50), some (.int (nI (kFc (aR a) * 5 ^ aR a)))] 1 (ab_dd tk_s_rowsNow 11 rfl) rfl rfl (by decide) rfl ?_
  refine x_aload_n 25 0 (ab_dd tk_s_rowsNow 12 rfl) rfl rfl rfl ?_
  refine t_getP 28 r (ab_dd tk_s_rowsNow 13 rfl) rfl F_s_91 (by decide) (Nat.lt_of_lt_of_le (by decide) hx.1) (hx.2.1 0 (by decide)) rfl hR0.1 ?_
  refine x_ifnull_f 31 (ab_dd tk_s_rowsNow 14 rfl) rfl ?_
  refine x_aload_n 32 0 (ab_dd tk_s_rowsNow 15 rfl) rfl rfl rfl ?_
  refine t_getP 35 r (ab_dd tk_s_rowsNow 16 rfl) rfl F_s_91 (by decide) (Nat.lt_of_lt_of_le (by decide) hx.1) (hx.2.1 0 (by decide)) rfl hR0.1 ?_
  refine t_callV 38 M_ro_size 0 0 [] (ab_dd tk_s_rowsNow 17 rfl) rfl (by first | decide | omega) K_ro_size V_ro_size.1 V_ro_size.2 L_s_328 rfl (Nat.le_of_ble_eq_true rfl) (Nat.le_trans (by decide) hr145) (Nat.lt_of_le_of_lt (Nat.le_add_right r 7) hK.2.1) hK.2.2.1 rfl (c_ro_size hK) (fun v1 w1 h1 => ?_)
  obtain ⟨rfl, rfl⟩ := h1
  refine x_iload_n 39 1 (ab_dd tk_s_rowsNow 18 rfl) rfl rfl rfl ?_
  refine x_icmp_ge_t 58 (ab_dd tk_s_rowsNow 19 rfl) (by decide) ((nI_leI (a := (kFc (aR a) * 5 ^ aR a)) (b := N) (by omega) (by omega)).mpr (show (kFc (aR a) * 5 ^ aR a) ≤ N by omega)) ?_
  refine x_aload_n 59 0 (ab_dd tk_s_rowsNow 28 rfl) rfl rfl rfl ?_
  refine t_getP 62 r (ab_dd tk_s_rowsNow 29 rfl) rfl F_s_91 (by decide) (Nat.lt_of_lt_of_le (by decide) hx.1) (hx.2.1 0 (by decide)) rfl hR0.1 ?_
  refine x_aload_n 63 0 (ab_dd tk_s_rowsNow 30 rfl) rfl rfl rfl ?_
  refine t_callV 66 M_s_lawsNow 1 0 [] (ab_dd tk_s_rowsNow 31 rfl) rfl (by first | decide | omega) K_s_lawsNow V_s_lawsNow.1 V_s_lawsNow.2 L_s_163 rfl (Nat.le_of_ble_eq_true rfl) (by decide) (Nat.lt_of_lt_of_le (by decide) hx.1) (hx.2.1 0 (by decide)) rfl (b_s_lawsNowS h ht) (fun v1 w1 h1 => ?_)
  obtain ⟨rfl, rfl⟩ := h1
  refine x_aload_n 67 0 (ab_dd tk_s_rowsNow 32 rfl) rfl rfl rfl ?_
  refine t_getP 70 55 (ab_dd tk_s_rowsNow 33 rfl) rfl F_s_27 (by decide) (Nat.lt_of_lt_of_le (by decide) hx.1) (hx.2.1 0 (by decide)) rfl (hx.2.2 (50, 3, 55) (by decide)) ?_
  refine t_getI 73 (ab_dd tk_s_rowsNow 34 rfl) rfl F_s_145 (by decide) (Nat.lt_of_lt_of_le (by decide) hx.1) (hx.2.1 5 (by decide)) rfl (x_topn (aW a) ht.2.1 ?_)
  refine x_aload_n 74 0 (ab_dd tk_s_rowsNow 35 rfl) rfl rfl rfl ?_
  refine t_getP 77 55 (ab_dd tk_s_rowsNow 36 rfl) rfl F_s_27 (by decide) (Nat.lt_of_lt_of_le (by decide) hx.1) (hx.2.1 0 (by decide)) rfl (hx.2.2 (50, 3, 55) (by decide)) ?_
  refine t_getI 80 (ab_dd tk_s_rowsNow 37 rfl) rfl F_s_151 (by decide) (Nat.lt_of_lt_of_le (by decide) hx.1) (hx.2.1 5 (by decide)) rfl (x_topn (aQ a) ht.2.2.1 ?_)
  refine t_callV 83 M_ro_begin 1 3 [_, _, _] (ab_dd tk_s_rowsNow 38 rfl) rfl (by first | decide | omega) K_ro_begin V_ro_begin.1 V_ro_begin.2 L_s_333 rfl (Nat.le_of_ble_eq_true rfl) (Nat.le_trans (by decide) hr145) (Nat.lt_of_le_of_lt (Nat.le_add_right r 7) hK.2.1) hK.2.2.1 rfl (c_ro_begS hx kc (hx.cl (Or.inl rfl)) hcl ha hR0) (fun v1 w1 h1 => ?_)
  obtain ⟨rfl, rfl⟩ := h1
  refine x_aload_n 84 0 (ab_dd tk_s_rowsNow 39 rfl) rfl rfl rfl ?_
  refine t_getP 87 r (ab_dd tk_s_rowsNow 40 rfl) rfl F_s_91 (by decide) (Nat.lt_of_lt_of_le (by decide) hx.1) (hx.2.1 0 (by decide)) rfl hR0.1 ?_
  exact x_aret (ab_dd tk_s_rowsNow 41 rfl) ⟨rfl, rfl⟩
def tb_s_forcingNow : List (Nat × Instr × Nat) := [(0, .aload_n 0, 1), (1, .invokevirtual 293, 3), (4, .astore_n 3, 1), (5, .aload_n 0, 1), (6, .getfield 95, 3), (9, .ifnull 17, 3), (12, .aload_n 0, 1), (13, .getfield 95, 3), (16, .invokevirtual 391, 3), (19, .aload_n 3, 1), (20, .invokevirtual 328, 3), (23, .if_icmp .ge 18, 3), (26, .aload_n 0, 1), (27, .new 383, 3), (30, .dup, 1), (31, .aload_n 3, 1), (32, .invokevirtual 328, 3), (35, .invokespecial 392, 3), (38, .putfield 95, 3), (41, .aload_n 3, 1), (42, .aload_n 3, 1), (43, .invokevirtual 328, 3), (46, .invokevirtual 394, 3), (49, .aload_n 0, 1), (50, .getfield 95, 3), (53, .aload_n 3, 1), (54, .iload_n 1, 1), (55, .iload_n 2, 1), (56, .invokevirtual 397, 3), (59, .aload_n 0, 1), (60, .getfield 95, 3), (63, .areturn, 1)]
theorem tk_s_forcingNow : ∀ q ∈ tb_s_forcingNow, decode M_s_forcingNow.2.1 q.1 = .ok q.2 := by decide +kernel
theorem b_s_forcingNow {G : ab_G} {S : ab_S} {im : Nat → Prop} {a b : Nat → Int32} {c bh nb st st2 u : Nat} (h : kBd S im a c b bh nb st st2 u) (ht : sdE S 55 (rowT a)) (hu : u + 2 < 2 ^ 20) {T : Nat} (hT : (cL a T).length = T) (p q : Nat) (hp4 : p < 4) (hq5 : q < 5) : ab_C G 6 M_s_forcingNow [.ref 50, .int (nI p), .int (nI q)] (sw S) (fun v w' => ∃ S' st' r N F rs, v = some (.ref F) ∧ w' = sw S' ∧ fAs im bh S S' ∧ gA S S' 0 0 ∧ kBd S' im a c a bh nb st' st2 (u + 2) ∧ sdE S' 55 (rowT a) ∧ rfB S' im bh st' a (u + 2) r N T rs ∧ foK S' F N ∧ (F + 5 < r ∨ r + 7 < F) ∧ foD S' F T (gI a T) (gV a T p q)) := by
  refine x_enter [some (.ref 50), some (.int (nI p)), some (.int (nI q)), none] (by decide) (Nat.le_of_ble_eq_true rfl) rfl (fun v w' h => by obtain ⟨S1, s1, r, N, F, rs, rfl, -⟩ := h; trivial) ?_
  have hbh := h.bh.1
  have h0 := h
  obtain ⟨hx, hse, kc, ⟨him, hil, h145⟩, ha, hc, ⟨hb1, hb2, hcl, hnb⟩, hcl9, -, hid, -, hu1, hu2⟩ := h0
  have h40 : sI S 55 3 = a 40 := ht.2.2.2.1.trans ha.1.m40.1.symm
  have tail : ∀ (S2 : ab_S) (s1 r N k1 rs F : Nat), kBd S2 im a c a bh nb s1 st2 (u + 2) → sdE S2 55 (rowT a) → rfB S2 im bh s1 a (u + 2) r N k1 rs → fAs im bh S S2 → gA S S2 0 0 → sP S2 50 16 = some F → foK S2 F N → (∀ y, F ≤ y → y ≤ F + 5 → ¬ im y) → (bh < F ∨ F + 5 < bh) → (F + 5 < r ∨ r + 7 < F) → ab_Ex G 6 M_s_forcingNow 41 [some (.ref 50), some (.int (nI p)), some (.int (nI q)), some (.ref r)] [] (sw S2) (fun v w' => ∃ S' st' r N F rs, v = some (.ref F) ∧ w' = sw S' ∧ fAs im bh S S' ∧ gA S S' 0 0 ∧ kBd S' im a c a bh nb st' st2 (u + 2) ∧ sdE S' 55 (rowT a) ∧ rfB S' im bh st' a (u + 2) r N T rs ∧ foK S' F N ∧ (F + 5 < r ∨ r + 7 < F) ∧ foD S' F T (gI a T) (gV a T p q)) := by
    intro S1 s1 r N k1 rs F hB1 hn1 hR1 hF1 hA1 p16 hKF hiF hbF hrF
    have hB1c := hB1
    obtain ⟨hx1, hse1, kc1, -, -, -, ⟨-, -, hcl1, -⟩, -⟩ := hB1c
    have hR1c := hR1
    obtain ⟨-, hi1, hb1, hO1, -, -, -, -, hI1, -⟩ := hR1c
    have hr1 := hO1.1
    have hF145 := hKF.1
    have hN31 : N ≤ 15000 := hO1.2.2.2.2.2.2.2.2.2.2.2.2.2.2.2.2.2.2
    refine x_aload_n 42 3 (ab_dd tk_s_forcingNow 19 rfl) rfl rfl rfl ?_
    refine x_aload_n 43 3 (ab_dd tk_s_forcingNow 20 rfl) rfl rfl rfl ?_
    refine t_callV 46 M_ro_size 0 0 [] (ab_dd tk_s_forcingNow 21 rfl) rfl (by first | decide | omega) K_ro_size V_ro_size.1 V_ro_size.2 L_s_328 rfl (Nat.le_of_ble_eq_true rfl) (Nat.le_trans (by decide) hr1) (Nat.lt_of_le_of_lt (Nat.le_add_right r 7) hO1.2.1) hO1.2.2.1 rfl (c_ro_size hO1) (fun v1 w1 h1 => ?_)
    obtain ⟨rfl, rfl⟩ := h1
    refine t_callV 49 M_ro_openTo 4 1 [_] (ab_dd tk_s_forcingNow 22 rfl) rfl (by first | decide | omega) K_ro_openTo V_ro_openTo.1 V_ro_openTo.2 L_s_394 rfl (Nat.le_of_ble_eq_true rfl) (Nat.le_trans (by decide) hr1) (Nat.lt_of_le_of_lt (Nat.le_add_right r 7) hO1.2.1) hO1.2.2.1 rfl (c_ro_openTo hx1 hse1 kc1 him (Or.inl rfl) hcl1 ha hO1 hi1 hb1 hI1 N (by omega)) (fun v1 w1 h1 => ?_)
    obtain ⟨rfl, S2, k2, rfl, hE2, hcl2, hI2, e9, e14, -, e15⟩ := h1
    obtain ⟨hB2, hR2, hF2, hG2⟩ := hB1.rgo hR1 hE2 (fun y hy => by simp only [List.mem_cons, List.not_mem_nil, or_false] at hy; omega) hcl2 hI2 e9 e14
    have hx2 : xSh S2 := hB2.1
    have hO2 : roK S2 r N := hR2.2.2.2.1
    have hKF2 : foK S2 F N := hKF.eq hE2
    have p162 : sP S2 50 16 = some F := by rw [hE2.2.2.2.2.1]; exact p16
    have hlen : (cL a k2).length ≤ N := nd_len (bfB_nd k2) (fun c hc => Nat.lt_of_lt_of_le (cL_all ha.1 k2 c hc) hI2.2.2.2.2.2.2.2.2)
    have hkl := hI2.2.1
    have eT : k2 = T := by
      have z1 := cL_lt hT hkl
      have z2 := cL_lt (show (cL a k2).length = k2 by omega) (Nat.le_of_eq hT.symm)
      omega
    rw [eT] at hI2 hR2
    have hold : sI S2 r 14 = sI S2 F 5 → nI p = sI S2 F 6 → nI q = sI S2 F 7 → foD S2 F T (gI a T) (gV a T p q) := fun y1 y2 y3 => by
      rcases hR2.2.2.2.2.2.2.2.2.2 with z | ⟨F2, M2, z1, -, -, -, z2, -, -, z3⟩
      · rw [p162] at z; cases z
      · have eF : F2 = F := Option.some.inj (z1.symm.trans p162)
        rw [eF] at z2 z3
        have eM : M2 = N := by
          have z := z2.2.2.2.2.2.1.symm.trans hKF2.2.2.2.2.2.1
          simpa using z
        exact ((z3 eM).2 (y1.symm.trans hR2.2.2.2.2.2.1)).2 p q T hp4 y2.symm (by omega) y3.symm hT
    refine x_aload_n 50 0 (ab_dd tk_s_forcingNow 23 rfl) rfl rfl rfl ?_
    refine t_getP 53 F (ab_dd tk_s_forcingNow 24 rfl) rfl F_s_95 (by decide) (Nat.lt_of_lt_of_le (by decide) hx2.1) (hx2.2.1 0 (by decide)) rfl p162 ?_
    refine x_aload_n 54 3 (ab_dd tk_s_forcingNow 25 rfl) rfl rfl rfl ?_
    refine x_iload_n 55 1 (ab_dd tk_s_forcingNow 26 rfl) rfl rfl rfl ?_
    refine x_iload_n 56 2 (ab_dd tk_s_forcingNow 27 rfl) rfl rfl rfl ?_
    refine t_callV 59 M_fo_solve 2 3 [_, _, _] (ab_dd tk_s_forcingNow 28 rfl) rfl (by first | decide | omega) K_fo_solve V_fo_solve.1 V_fo_solve.2 L_s_397 rfl (Nat.le_of_ble_eq_true rfl) (Nat.le_trans (by decide) hF145) (Nat.lt_of_le_of_lt (Nat.le_add_right F 5) hKF2.2.1) hKF2.2.2.1 rfl (c_fo_solve hB2.2.2.1 hKF2 hO2 ha.1 hI2 hT hrF p q hp4 (by omega) hold) (fun v1 w1 h1 => ?_)
    obtain ⟨rfl, S3, rfl, hE3, hD3, z5, z6, z7⟩ := h1
    have hrs2 := hR2.2.2.2.2.2.1
    obtain ⟨hB3, hR3, hF3, hG3⟩ := rfB.fo hB2 hR2 hE3 p162 hKF2 hiF hbF hrF (z5.trans hrs2) z6 z7 hp4 (by omega) hT hD3
    have hx3 : xSh S3 := hB3.1
    have hO3 : roK S3 r N := hR3.2.2.2.1
    have hKF3 : foK S3 F N := hKF2.eq hE3
    have p163 : sP S3 50 16 = some F := by rw [hE3.2.2.2.2.1]; exact p162
    have hn3 : sdE S3 55 (rowT a) := (hn1.eq hE2 (by simp only [List.mem_cons, List.not_mem_nil, or_false, not_or]; omega)).eq hE3 (by simp only [List.mem_cons, List.not_mem_nil, or_false, not_or]; omega)
    refine x_aload_n 60 0 (ab_dd tk_s_forcingNow 29 rfl) rfl rfl rfl ?_
    refine t_getP 63 F (ab_dd tk_s_forcingNow 30 rfl) rfl F_s_95 (by decide) (Nat.lt_of_lt_of_le (by decide) hx3.1) (hx3.2.1 0 (by decide)) rfl p163 ?_
    exact x_aret (ab_dd tk_s_forcingNow 31 rfl) ⟨S3, s1, r, N, F, rs, rfl, rfl, (hF1.tr hF2).tr hF3, (hA1.tr hG2).tr hG3, hB3, hn3, hR3, hKF3, hrF, hD3⟩
  refine x_aload_n 1 0 (ab_dd tk_s_forcingNow 0 rfl) rfl rfl rfl ?_
  refine t_callV 4 M_s_rowsNow 3 0 [] (ab_dd tk_s_forcingNow 1 rfl) rfl (by first | decide | omega) K_s_rowsNow V_s_rowsNow.1 V_s_rowsNow.2 L_s_293 rfl (Nat.le_of_ble_eq_true rfl) (by decide) (Nat.lt_of_lt_of_le (by decide) hx.1) (hx.2.1 0 (by decide)) rfl (b_s_rowsNow h ht (by omega)) (fun v1 w1 h1 => ?_)
  obtain ⟨S1, s1, r, N, k1, rs, rfl, rfl, hF1, hG1, hB1, hn1, hR1, hN1⟩ := h1
  have hB1c := hB1
  obtain ⟨hx1, hse1, kc1, -, -, -, ⟨-, -, hcl1, -⟩, -⟩ := hB1c
  have hR1c := hR1
  obtain ⟨-, hi1, hb1, hO1, -, -, -, -, hI1, -⟩ := hR1c
  have hA1 := gA.rows h hF1 hG1 hR1
  have hr1 := hO1.1
  have hN31 : N ≤ 15000 := hO1.2.2.2.2.2.2.2.2.2.2.2.2.2.2.2.2.2.2
  have hsn1 : 145 ≤ sn S1 := hB1.2.2.2.1.2.2
  rcases hR1.2.2.2.2.2.2.2.2.2 with p16 | ⟨F, M, p16, hiF, hbF, hrF, hKF, hzF, hMF, -⟩
  · have hold : szL S1 (sP S1 50 16) 3 < N := by
      rw [p16]
      show 0 < N
      have := hR1.2.2.2.2.1.cs
      omega
    refine x_astore_n 5 [some (.ref 50), some (.int (nI p)), some (.int (nI q)), some (.ref r)] 3 (ab_dd tk_s_forcingNow 2 rfl) rfl rfl (by decide) rfl ?_
    refine x_aload_n 6 0 (ab_dd tk_s_forcingNow 3 rfl) rfl rfl rfl ?_
    refine t_getN 9 (ab_dd tk_s_forcingNow 4 rfl) rfl F_s_95 (by decide) (Nat.lt_of_lt_of_le (by decide) hx1.1) (hx1.2.1 0 (by decide)) rfl p16 ?_
    refine x_ifnull_t 26 (ab_dd tk_s_forcingNow 5 rfl) (by decide) ?_
    refine x_aload_n 27 0 (ab_dd tk_s_forcingNow 12 rfl) rfl rfl rfl ?_
    refine t_newO (ci := 2) 30 (ab_dd tk_s_forcingNow 13 rfl) rfl (show 50 ≤ sn S1 + 0 by omega) rfl Q_s_383 N_fo.1 N_fo.2 ?_
    have gN : grE S1 (pN S1 (.inr 2) 9) 1 9 := grE.of nwE.rf
    have hxN : xSh (pN S1 (.inr 2) 9) := hx1.gr gN
    have hON : roK (pN S1 (.inr 2) 9) r N := hO1.gf (gF.gr gN) (fun z => z)
    refine x_dup 31 (ab_dd tk_s_forcingNow 14 rfl) rfl rfl ?_
    refine x_aload_n 32 3 (ab_dd tk_s_forcingNow 15 rfl) rfl rfl rfl ?_
    refine t_callV 35 M_ro_size 0 0 [] (ab_dd tk_s_forcingNow 16 rfl) rfl (by first | decide | omega) K_ro_size V_ro_size.1 V_ro_size.2 L_s_328 rfl (Nat.le_of_ble_eq_true rfl) (Nat.le_trans (by decide) hr1) (Nat.lt_of_le_of_lt (Nat.le_add_right r 7) hON.2.1) hON.2.2.1 rfl (c_ro_size hON) (fun v1 w1 h1 => ?_)
    obtain ⟨rfl, rfl⟩ := h1
    refine x_callI 38 M_fo_init 1 1 [_] (ab_dd tk_s_forcingNow 17 rfl) rfl (by first | decide | omega) K_fo_init rfl rfl V_fo_init L_s_392 rfl (Nat.le_of_ble_eq_true rfl) (c_fo_init (S := (pN S1 (.inr 2) 9)) (a := sn S1) (by show 50 ≤ sn S1 + 1; omega) (by omega) (Nat.lt_succ_self _) up1_s N hN31) (fun v1 w1 h1 => ?_)
    obtain ⟨rfl, S2, rfl, hN2, q0, q1, q2, q3, q4, kk1, kk2, kk3, kk4, kk5, h5⟩ := h1
    have g2 : grE S1 S2 6 (9 + 10 * N) := by
      have z := grE.of hN2
      rw [show 9 + (0 + 2 * N + 2 * N + N + N + N * 4) = 9 + 10 * N by omega] at z
      exact z
    have hx2 : xSh S2 := hx1.gr g2
    have hO2 : foK S2 (sn S1) N := ⟨hsn1, by have := g2.2.1; omega, (hN2.2.2.2.1 _ (Nat.lt_succ_self _)).trans up1_s, kk1, kk2, kk3, kk4, kk5, q0, q1, q2, q3, q4, hN31⟩
    have hrsu : rs < 2 ^ 31 := by have := hR1.2.2.2.2.2.2.1; omega
    obtain ⟨hB2, hR2, hF2⟩ := rfB.nwF hB1 hR1 hrsu g2 hO2 h5
    have hG2 := gA.nwF hB1 hR1 g2 hO2 hold
    have hil1 := hB1.2.2.2.1.2.1
    have hbn1 : bh < sn S1 := hcl1.2.2.2.2.2.2.2.1.2
    have hrn1 := hO1.2.1
    refine t_putP 41 (ab_dd tk_s_forcingNow 18 rfl) rfl F_s_95 (by decide) (Nat.lt_of_lt_of_le (by decide) hx2.1) (hx2.2.1 0 (by decide)) rfl ?_
    exact tail _ s1 r N k1 rs (sn S1) hB2 (hn1.gf hF2.1 (by omega) (fun z => by omega)) hR2 (hF1.tr hF2) (hA1.tr hG2) gP_s (hO2.gf (gF.rf.pP (l := fun y => y = 50) rfl) (by omega)) (fun y y1 y2 z => by have := hil1 y z; omega) (Or.inl hbn1) (Or.inr (by omega))
  · have hF145 := hKF.1
    refine x_astore_n 5 [some (.ref 50), some (.int (nI p)), some (.int (nI q)), some (.ref r)] 3 (ab_dd tk_s_forcingNow 2 rfl) rfl rfl (by decide) rfl ?_
    refine x_aload_n 6 0 (ab_dd tk_s_forcingNow 3 rfl) rfl rfl rfl ?_
    refine t_getP 9 F (ab_dd tk_s_forcingNow 4 rfl) rfl F_s_95 (by decide) (Nat.lt_of_lt_of_le (by decide) hx1.1) (hx1.2.1 0 (by decide)) rfl p16 ?_
    refine x_ifnull_f 12 (ab_dd tk_s_forcingNow 5 rfl) rfl ?_
    refine x_aload_n 13 0 (ab_dd tk_s_forcingNow 6 rfl) rfl rfl rfl ?_
    refine t_getP 16 F (ab_dd tk_s_forcingNow 7 rfl) rfl F_s_95 (by decide) (Nat.lt_of_lt_of_le (by decide) hx1.1) (hx1.2.1 0 (by decide)) rfl p16 ?_
    refine t_callV 19 M_fo_size 0 0 [] (ab_dd tk_s_forcingNow 8 rfl) rfl (by first | decide | omega) K_fo_size V_fo_size.1 V_fo_size.2 L_s_391 rfl (Nat.le_of_ble_eq_true rfl) (Nat.le_trans (by decide) hF145) (Nat.lt_of_le_of_lt (Nat.le_add_right F 5) hKF.2.1) hKF.2.2.1 rfl (c_fo_size hKF) (fun v1 w1 h1 => ?_)
    obtain ⟨rfl, rfl⟩ := h1
    refine x_aload_n 20 3 (ab_dd tk_s_forcingNow 9 rfl) rfl rfl rfl ?_
    refine t_callV 23 M_ro_size 0 0 [] (ab_dd tk_s_forcingNow 10 rfl) rfl (by first | decide | omega) K_ro_size V_ro_size.1 V_ro_size.2 L_s_328 rfl (Nat.le_of_ble_eq_true rfl) (Nat.le_trans (by decide) hr1) (Nat.lt_of_le_of_lt (Nat.le_add_right r 7) hO1.2.1) hO1.2.2.1 rfl (c_ro_size hO1) (fun v1 w1 h1 => ?_)
    obtain ⟨rfl, rfl⟩ := h1
    refine xn_icmp_ge 26 41 (ab_dd tk_s_forcingNow 11 rfl) rfl (by decide) (by omega) (by omega) (fun h23 => ?_) (fun h23 => ?_)
    · have eM : M = N := by omega
      rw [eM] at hKF
      exact tail S1 s1 r N k1 rs F hB1 hn1 hR1 hF1 hA1 p16 hKF hiF hbF hrF
    · have hold : szL S1 (sP S1 50 16) 3 < N := by
        rw [p16]
        show (match sK S1 (F + 3) with | .inl (_, N) => N | .inr _ => 0) < N
        rw [hKF.2.2.2.2.2.1]
        show M < N
        omega
      refine x_aload_n 27 0 (ab_dd tk_s_forcingNow 12 rfl) rfl rfl rfl ?_
      refine t_newO (ci := 2) 30 (ab_dd tk_s_forcingNow 13 rfl) rfl (show 50 ≤ sn S1 + 0 by omega) rfl Q_s_383 N_fo.1 N_fo.2 ?_
      have gN : grE S1 (pN S1 (.inr 2) 9) 1 9 := grE.of nwE.rf
      have hxN : xSh (pN S1 (.inr 2) 9) := hx1.gr gN
      have hON : roK (pN S1 (.inr 2) 9) r N := hO1.gf (gF.gr gN) (fun z => z)
      refine x_dup 31 (ab_dd tk_s_forcingNow 14 rfl) rfl rfl ?_
      refine x_aload_n 32 3 (ab_dd tk_s_forcingNow 15 rfl) rfl rfl rfl ?_
      refine t_callV 35 M_ro_size 0 0 [] (ab_dd tk_s_forcingNow 16 rfl) rfl (by first | decide | omega) K_ro_size V_ro_size.1 V_ro_size.2 L_s_328 rfl (Nat.le_of_ble_eq_true rfl) (Nat.le_trans (by decide) hr1) (Nat.lt_of_le_of_lt (Nat.le_add_right r 7) hON.2.1) hON.2.2.1 rfl (c_ro_size hON) (fun v1 w1 h1 => ?_)
      obtain ⟨rfl, rfl⟩ := h1
      refine x_callI 38 M_fo_init 1 1 [_] (ab_dd tk_s_forcingNow 17 rfl) rfl (by first | decide | omega) K_fo_init rfl rfl V_fo_init L_s_392 rfl (Nat.le_of_ble_eq_true rfl) (c_fo_init (S := (pN S1 (.inr 2) 9)) (a := sn S1) (by show 50 ≤ sn S1 + 1; omega) (by omega) (Nat.lt_succ_self _) up1_s N hN31) (fun v1 w1 h1 => ?_)
      obtain ⟨rfl, S2, rfl, hN2, q0, q1, q2, q3, q4, kk1, kk2, kk3, kk4, kk5, h5⟩ := h1
      have g2 : grE S1 S2 6 (9 + 10 * N) := by
        have z := grE.of hN2
        rw [show 9 + (0 + 2 * N + 2 * N + N + N + N * 4) = 9 + 10 * N by omega] at z
        exact z
      have hx2 : xSh S2 := hx1.gr g2
      have hO2 : foK S2 (sn S1) N := ⟨hsn1, by have := g2.2.1; omega, (hN2.2.2.2.1 _ (Nat.lt_succ_self _)).trans up1_s, kk1, kk2, kk3, kk4, kk5, q0, q1, q2, q3, q4, hN31⟩
      have hrsu : rs < 2 ^ 31 := by have := hR1.2.2.2.2.2.2.1; omega
      obtain ⟨hB2, hR2, hF2⟩ := rfB.nwF hB1 hR1 hrsu g2 hO2 h5
      have hG2 := gA.nwF hB1 hR1 g2 hO2 hold
      have hil1 := hB1.2.2.2.1.2.1
      have hbn1 : bh < sn S1 := hcl1.2.2.2.2.2.2.2.1.2
      have hrn1 := hO1.2.1
      refine t_putP 41 (ab_dd tk_s_forcingNow 18 rfl) rfl F_s_95 (by decide) (Nat.lt_of_lt_of_le (by decide) hx2.1) (hx2.2.1 0 (by decide)) rfl ?_
      exact tail _ s1 r N k1 rs (sn S1) hB2 (hn1.gf hF2.1 (by omega) (fun z => by omega)) hR2 (hF1.tr hF2) (hA1.tr hG2) gP_s (hO2.gf (gF.rf.pP (l := fun y => y = 50) rfl) (by omega)) (fun y y1 y2 z => by have := hil1 y z; omega) (Or.inl hbn1) (Or.inr (by omega))
def tb_s_forces : List (Nat × Instr × Nat) := [(0, .aload_n 0, 1), (1, .iload_n 1, 1), (2, .i2l, 1), (3, .invokevirtual 130, 3), (6, .ifCond .ne 6, 3), (9, .bipush (-2), 2), (11, .ireturn, 1), (12, .iload_n 2, 1), (13, .i2l, 1), (14, .invokestatic 283, 3), (17, .ifCond .ne 6, 3), (20, .bipush (-3), 2), (22, .ireturn, 1), (23, .aload_n 0, 1), (24, .getfield 27, 3), (27, .getfield 145, 3), (30, .iload_n 1, 1), (31, .invokestatic 148, 3), (34, .iload_n 2, 1), (35, .if_icmp .lt 7, 3), (38, .iconst 0, 1), (39, .goto 12, 3), (42, .aload_n 0, 1), (43, .iload_n 1, 1), (44, .iload_n 2, 1), (45, .invokevirtual 378, 3), (48, .invokevirtual 382, 3), (51, .ireturn, 1)]
theorem tk_s_forces : ∀ q ∈ tb_s_forces, decode M_s_forces.2.1 q.1 = .ok q.2 := by decide +kernel
theorem p_s_forces {G : ab_G} {S : ab_S} {im : Nat → Prop} {a b : Nat → Int32} {c bh nb st st2 u : Nat} (h : kBd S im a c b bh nb st st2 u) (ht : sdE S 55 (rowT a)) (hu : u + 64 < 2 ^ 20) {T : Nat} (hT : (cL a T).length = T) (p k : Int32) : ab_C G 7 M_s_forces [.ref 50, .int p, .int k] (sw S) (fun v w' => ∃ v0, pAs S im a c bh nb u 0 0 (some (.int v0)) v w' ∧ ((¬ aNo (aR a) p k = 0 ∧ v0 = aNo (aR a) p k) ∨ (aNo (aR a) p k = 0 ∧ fstM (fun m => m < gFAR ∧ fw (gI a T) (gV a T (cN p) (cN k)) m true 0) v0))) := by
  refine x_enter [some (.ref 50), some (.int p), some (.int k)] (by decide) (Nat.le_of_ble_eq_true rfl) rfl (fun v w' h => by obtain ⟨v0, ⟨rfl, -⟩, -⟩ := h; rfl) ?_
  have hbh := h.bh.1
  have h0 := h
  obtain ⟨hx, hse, kc, ⟨him, hil, h145⟩, ha, hc, ⟨hb1, hb2, hcl, hnb⟩, hcl9, -, hid, -, hu1, hu2⟩ := h0
  have h40 : sI S 55 3 = a 40 := ht.2.2.2.1.trans ha.1.m40.1.symm
  have hca := hcl.1.sta hb2.sy
  obtain ⟨hk, c1, -⟩ := hca
  have hR := ha.1.R.2
  have h50 : 50 ≤ sn S := by omega
  obtain ⟨hq0, hw0, hE0⟩ := rowT_in ha.1
  have hw6 : aW a < 625 := by have := p5_6 hR; omega
  have hq24 := Nat.lt_of_lt_of_le hq0 (kFc_le (aR a))
  refine x_aload_n 1 0 (ab_dd tk_s_forces 0 rfl) rfl rfl rfl ?_
  refine x_iload_n 2 1 (ab_dd tk_s_forces 1 rfl) rfl rfl rfl ?_
  refine x_i2l 3 (ab_dd tk_s_forces 2 rfl) rfl ?_
  refine t_callV 6 M_s_isRider 0 1 [_] (ab_dd tk_s_forces 3 rfl) rfl (by first | decide | omega) K_s_isRider V_s_isRider.1 V_s_isRider.2 L_s_130 rfl (Nat.le_of_ble_eq_true rfl) (by decide) (Nat.lt_of_lt_of_le (by decide) hx.1) (hx.2.1 0 (by decide)) rfl (cx_isRider (by exact hx) hc hk hR c1 p) (fun v1 w1 h1 => ?_)
  obtain ⟨rfl, rfl⟩ := h1
  refine xb_if_ne 9 12 (ab_dd tk_s_forces 4 rfl) rfl (by decide) (fun h6 => ?_) (fun h6 => ?_)
  · refine x_iload_n 13 2 (ab_dd tk_s_forces 7 rfl) rfl rfl rfl ?_
    refine x_i2l 14 (ab_dd tk_s_forces 8 rfl) rfl ?_
    refine x_callS 17 M_s_isWarmth 0 1 [_] (ab_dd tk_s_forces 9 rfl) rfl (by first | decide | omega) K_s_isWarmth T_s_isWarmth L_s_283 rfl (Nat.le_of_ble_eq_true rfl) (cx_isWarmth k) (fun v1 w1 h1 => ?_)
    obtain ⟨rfl, rfl⟩ := h1
    refine xb_if_ne 20 23 (ab_dd tk_s_forces 10 rfl) rfl (by decide) (fun h17 => ?_) (fun h17 => ?_)
    · have hpp := h6
      have hkk := h17
      have eNo : aNo (aR a) p k = 0 := by unfold aNo; rw [if_pos hpp, if_pos hkk]
      obtain ⟨q, ekq, enq⟩ : ∃ q, p = nI q ∧ cN p = q := ⟨cN p, nI_cN h6.1, rfl⟩
      have hqR : q < aR a := by have := hpp.2; omega
      have hq4 : q < 4 := by omega
      obtain ⟨m, hm, ekm, enm⟩ := in_get (n := 4) (by decide) h17
      rw [show some (Value.int p) = some (Value.int (nI q)) by rw [ekq], show some (Value.int k) = some (Value.int (nI m)) by rw [ekm], enq, enm]
      have hm5 : mWa (aW a) q < 5 := Nat.mod_lt _ (by decide)
      have hVW : m ≤ mWa (aW a) q → gV a T q m 0 := fun z => by
        show m ≤ mWa (gC a T 0) q
        rw [gC_0, hE0, cSt_wa hw6]
        exact z
      refine x_aload_n 24 0 (ab_dd tk_s_forces 13 rfl) rfl rfl rfl ?_
      refine t_getP 27 55 (ab_dd tk_s_forces 14 rfl) rfl F_s_27 (by decide) (Nat.lt_of_lt_of_le (by decide) hx.1) (hx.2.1 0 (by decide)) rfl (hx.2.2 (50, 3, 55) (by decide)) ?_
      refine t_getI 30 (ab_dd tk_s_forces 15 rfl) rfl F_s_145 (by decide) (Nat.lt_of_lt_of_le (by decide) hx.1) (hx.2.1 5 (by decide)) rfl (x_topn (aW a) ht.2.1 ?_)
      refine x_iload_n 31 1 (ab_dd tk_s_forces 16 rfl) rfl rfl rfl ?_
      refine x_callS 34 M_s_warmthOf 0 2 [_, _] (ab_dd tk_s_forces 17 rfl) rfl (by first | decide | omega) K_s_warmthOf T_s_warmthOf L_s_148 rfl (Nat.le_of_ble_eq_true rfl) (c_s_warmthOf kc h50 (aW a) q hw6 hq4) (fun v1 w1 h1 => ?_)
      obtain ⟨rfl, rfl⟩ := h1
      refine x_iload_n 35 2 (ab_dd tk_s_forces 18 rfl) rfl rfl rfl ?_
      refine xn_icmp_lt 38 42 (ab_dd tk_s_forces 19 rfl) rfl (by decide) (by omega) (by omega) (fun h35 => ?_) (fun h35 => ?_)
      · refine x_aload_n 43 0 (ab_dd tk_s_forces 22 rfl) rfl rfl rfl ?_
        refine x_iload_n 44 1 (ab_dd tk_s_forces 23 rfl) rfl rfl rfl ?_
        refine x_iload_n 45 2 (ab_dd tk_s_forces 24 rfl) rfl rfl rfl ?_
        refine t_callV 48 M_s_forcingNow 6 2 [_, _] (ab_dd tk_s_forces 25 rfl) rfl (by first | decide | omega) K_s_forcingNow V_s_forcingNow.1 V_s_forcingNow.2 L_s_378 rfl (Nat.le_of_ble_eq_true rfl) (by decide) (Nat.lt_of_lt_of_le (by decide) hx.1) (hx.2.1 0 (by decide)) rfl (b_s_forcingNow h ht (by omega) hT q m hq4 (by omega)) (fun v1 w1 h1 => ?_)
        obtain ⟨S1, s1, r, N, F, rs, rfl, rfl, hF1, hA1, hB1, hn1, hR1, hKF1, hrF1, hD1⟩ := h1
        have hx1 : xSh S1 := hB1.1
        have hN0 : 0 < N := by have := hR1.2.2.2.2.1.cs; omega
        have hT0 : 0 < T := by have := (bfB_pos (nx := nxC a) (c0 := aQ a * 5 ^ aR a + aW a) T).1; have z : (bfB (nxC a) (aQ a * 5 ^ aR a + aW a) T).length = T := hT; omega
        refine t_callV 51 M_fo_fewest 0 0 [] (ab_dd tk_s_forces 26 rfl) rfl (by first | decide | omega) K_fo_fewest V_fo_fewest.1 V_fo_fewest.2 L_s_382 rfl (Nat.le_of_ble_eq_true rfl) (Nat.le_trans (by decide) hKF1.1) (Nat.lt_of_le_of_lt (Nat.le_add_right F 5) hKF1.2.1) hKF1.2.2.1 rfl (c_fo_fewest hKF1 hN0) (fun v1 w1 h1 => ?_)
        obtain ⟨rfl, rfl⟩ := h1
        exact x_iret (ab_dd tk_s_forces 27 rfl) ⟨_, ⟨rfl, S1, a, s1, st2, rfl, hF1, hA1, hB1.up (by omega), hn1⟩, Or.inr ⟨by first | exact eNo | (rw [← ekq, ← ekm]; exact eNo), few_c ha.1 hT hT0 hD1⟩⟩
      · refine x_iconst 39 0 (ab_dd tk_s_forces 20 rfl) rfl (by decide) (x_topn 0 rfl ?_)
        refine x_goto 51 (ab_dd tk_s_forces 21 rfl) (by decide) ?_
        exact x_iret (ab_dd tk_s_forces 27 rfl) ⟨_, ⟨rfl, S, b, st, st2, rfl, fAs.rf, gA.rf, h.up (by omega), ht⟩, Or.inr ⟨by first | exact eNo | (rw [← ekq, ← ekm]; exact eNo), Or.inl ⟨0, ⟨by decide, fw_W _ _ _ (hVW (by omega))⟩, fun j hj => absurd hj (by omega), rfl⟩⟩⟩
    · refine x_bipush 22 (-3) (ab_dd tk_s_forces 11 rfl) rfl (by decide) ?_
      exact x_iret (ab_dd tk_s_forces 12 rfl) ⟨-3, ⟨rfl, S, b, st, st2, rfl, fAs.rf, gA.rf, h.up (by omega), ht⟩, Or.inl (by unfold aNo; rw [if_pos h6, if_neg h17]; exact ⟨by decide, rfl⟩)⟩
  · refine x_bipush 11 (-2) (ab_dd tk_s_forces 5 rfl) rfl (by decide) ?_
    exact x_iret (ab_dd tk_s_forces 6 rfl) ⟨-2, ⟨rfl, S, b, st, st2, rfl, fAs.rf, gA.rf, h.up (by omega), ht⟩, Or.inl (by unfold aNo; rw [if_neg h6]; exact ⟨by decide, rfl⟩)⟩
def tb_s_best : List (Nat × Instr × Nat) := [(0, .aload_n 0, 1), (1, .iload_n 1, 1), (2, .i2l, 1), (3, .invokevirtual 130, 3), (6, .ifCond .ne 6, 3), (9, .bipush (-2), 2), (11, .ireturn, 1), (12, .iload_n 2, 1), (13, .i2l, 1), (14, .invokestatic 283, 3), (17, .ifCond .ne 6, 3), (20, .bipush (-3), 2), (22, .ireturn, 1), (23, .aload_n 0, 1), (24, .getfield 27, 3), (27, .getfield 145, 3), (30, .iload_n 1, 1), (31, .invokestatic 148, 3), (34, .iload_n 2, 1), (35, .if_icmp .lt 7, 3), (38, .iconst (-1), 1), (39, .goto 16, 3), (42, .aload_n 0, 1), (43, .iload_n 1, 1), (44, .iload_n 2, 1), (45, .invokevirtual 378, 3), (48, .aload_n 0, 1), (49, .invokevirtual 293, 3), (52, .invokevirtual 387, 3), (55, .ireturn, 1)]
theorem tk_s_best : ∀ q ∈ tb_s_best, decode M_s_best.2.1 q.1 = .ok q.2 := by decide +kernel
theorem p_s_best {G : ab_G} {S : ab_S} {im : Nat → Prop} {a b : Nat → Int32} {c bh nb st st2 u : Nat} (h : kBd S im a c b bh nb st st2 u) (ht : sdE S 55 (rowT a)) (hu : u + 64 < 2 ^ 20) {T : Nat} (hT : (cL a T).length = T) (p k : Int32) : ab_C G 7 M_s_best [.ref 50, .int p, .int k] (sw S) (fun v w' => ∃ v0, pAs S im a c bh nb u 0 0 (some (.int v0)) v w' ∧ ((¬ aNo (aR a) p k = 0 ∧ v0 = aNo (aR a) p k) ∨ (aNo (aR a) p k = 0 ∧ bsR (gI a T) (gV a T (cN p) (cN k)) 0 v0))) := by
  refine x_enter [some (.ref 50), some (.int p), some (.int k)] (by decide) (Nat.le_of_ble_eq_true rfl) rfl (fun v w' h => by obtain ⟨v0, ⟨rfl, -⟩, -⟩ := h; rfl) ?_
  have hbh := h.bh.1
  have h0 := h
  obtain ⟨hx, hse, kc, ⟨him, hil, h145⟩, ha, hc, ⟨hb1, hb2, hcl, hnb⟩, hcl9, -, hid, -, hu1, hu2⟩ := h0
  have h40 : sI S 55 3 = a 40 := ht.2.2.2.1.trans ha.1.m40.1.symm
  have hca := hcl.1.sta hb2.sy
  obtain ⟨hk, c1, -⟩ := hca
  have hR := ha.1.R.2
  have h50 : 50 ≤ sn S := by omega
  obtain ⟨hq0, hw0, hE0⟩ := rowT_in ha.1
  have hw6 : aW a < 625 := by have := p5_6 hR; omega
  have hq24 := Nat.lt_of_lt_of_le hq0 (kFc_le (aR a))
  refine x_aload_n 1 0 (ab_dd tk_s_best 0 rfl) rfl rfl rfl ?_
  refine x_iload_n 2 1 (ab_dd tk_s_best 1 rfl) rfl rfl rfl ?_
  refine x_i2l 3 (ab_dd tk_s_best 2 rfl) rfl ?_
  refine t_callV 6 M_s_isRider 0 1 [_] (ab_dd tk_s_best 3 rfl) rfl (by first | decide | omega) K_s_isRider V_s_isRider.1 V_s_isRider.2 L_s_130 rfl (Nat.le_of_ble_eq_true rfl) (by decide) (Nat.lt_of_lt_of_le (by decide) hx.1) (hx.2.1 0 (by decide)) rfl (cx_isRider (by exact hx) hc hk hR c1 p) (fun v1 w1 h1 => ?_)
  obtain ⟨rfl, rfl⟩ := h1
  refine xb_if_ne 9 12 (ab_dd tk_s_best 4 rfl) rfl (by decide) (fun h6 => ?_) (fun h6 => ?_)
  · refine x_iload_n 13 2 (ab_dd tk_s_best 7 rfl) rfl rfl rfl ?_
    refine x_i2l 14 (ab_dd tk_s_best 8 rfl) rfl ?_
    refine x_callS 17 M_s_isWarmth 0 1 [_] (ab_dd tk_s_best 9 rfl) rfl (by first | decide | omega) K_s_isWarmth T_s_isWarmth L_s_283 rfl (Nat.le_of_ble_eq_true rfl) (cx_isWarmth k) (fun v1 w1 h1 => ?_)
    obtain ⟨rfl, rfl⟩ := h1
    refine xb_if_ne 20 23 (ab_dd tk_s_best 10 rfl) rfl (by decide) (fun h17 => ?_) (fun h17 => ?_)
    · have hpp := h6
      have hkk := h17
      have eNo : aNo (aR a) p k = 0 := by unfold aNo; rw [if_pos hpp, if_pos hkk]
      obtain ⟨q, ekq, enq⟩ : ∃ q, p = nI q ∧ cN p = q := ⟨cN p, nI_cN h6.1, rfl⟩
      have hqR : q < aR a := by have := hpp.2; omega
      have hq4 : q < 4 := by omega
      obtain ⟨m, hm, ekm, enm⟩ := in_get (n := 4) (by decide) h17
      rw [show some (Value.int p) = some (Value.int (nI q)) by rw [ekq], show some (Value.int k) = some (Value.int (nI m)) by rw [ekm], enq, enm]
      have hm5 : mWa (aW a) q < 5 := Nat.mod_lt _ (by decide)
      have hVW : m ≤ mWa (aW a) q → gV a T q m 0 := fun z => by
        show m ≤ mWa (gC a T 0) q
        rw [gC_0, hE0, cSt_wa hw6]
        exact z
      refine x_aload_n 24 0 (ab_dd tk_s_best 13 rfl) rfl rfl rfl ?_
      refine t_getP 27 55 (ab_dd tk_s_best 14 rfl) rfl F_s_27 (by decide) (Nat.lt_of_lt_of_le (by decide) hx.1) (hx.2.1 0 (by decide)) rfl (hx.2.2 (50, 3, 55) (by decide)) ?_
      refine t_getI 30 (ab_dd tk_s_best 15 rfl) rfl F_s_145 (by decide) (Nat.lt_of_lt_of_le (by decide) hx.1) (hx.2.1 5 (by decide)) rfl (x_topn (aW a) ht.2.1 ?_)
      refine x_iload_n 31 1 (ab_dd tk_s_best 16 rfl) rfl rfl rfl ?_
      refine x_callS 34 M_s_warmthOf 0 2 [_, _] (ab_dd tk_s_best 17 rfl) rfl (by first | decide | omega) K_s_warmthOf T_s_warmthOf L_s_148 rfl (Nat.le_of_ble_eq_true rfl) (c_s_warmthOf kc h50 (aW a) q hw6 hq4) (fun v1 w1 h1 => ?_)
      obtain ⟨rfl, rfl⟩ := h1
      refine x_iload_n 35 2 (ab_dd tk_s_best 18 rfl) rfl rfl rfl ?_
      refine xn_icmp_lt 38 42 (ab_dd tk_s_best 19 rfl) rfl (by decide) (by omega) (by omega) (fun h35 => ?_) (fun h35 => ?_)
      · refine x_aload_n 43 0 (ab_dd tk_s_best 22 rfl) rfl rfl rfl ?_
        refine x_iload_n 44 1 (ab_dd tk_s_best 23 rfl) rfl rfl rfl ?_
        refine x_iload_n 45 2 (ab_dd tk_s_best 24 rfl) rfl rfl rfl ?_
        refine t_callV 48 M_s_forcingNow 6 2 [_, _] (ab_dd tk_s_best 25 rfl) rfl (by first | decide | omega) K_s_forcingNow V_s_forcingNow.1 V_s_forcingNow.2 L_s_378 rfl (Nat.le_of_ble_eq_true rfl) (by decide) (Nat.lt_of_lt_of_le (by decide) hx.1) (hx.2.1 0 (by decide)) rfl (b_s_forcingNow h ht (by omega) hT q m hq4 (by omega)) (fun v1 w1 h1 => ?_)
        obtain ⟨S1, s1, r, N, F, rs, rfl, rfl, hF1, hA1, hB1, hn1, hR1, hKF1, hrF1, hD1⟩ := h1
        have hx1 : xSh S1 := hB1.1
        have hN0 : 0 < N := by have := hR1.2.2.2.2.1.cs; omega
        have hT0 : 0 < T := by have := (bfB_pos (nx := nxC a) (c0 := aQ a * 5 ^ aR a + aW a) T).1; have z : (bfB (nxC a) (aQ a * 5 ^ aR a + aW a) T).length = T := hT; omega
        refine x_aload_n 49 0 (ab_dd tk_s_best 26 rfl) rfl rfl rfl ?_
        refine t_callV 52 M_s_rowsNow 3 0 [] (ab_dd tk_s_best 27 rfl) rfl (by first | decide | omega) K_s_rowsNow V_s_rowsNow.1 V_s_rowsNow.2 L_s_293 rfl (Nat.le_of_ble_eq_true rfl) (by decide) (Nat.lt_of_lt_of_le (by decide) hx1.1) (hx1.2.1 0 (by decide)) rfl (b_s_rowsNowS hB1 hn1 hR1) (fun v1 w1 h1 => ?_)
        obtain ⟨rfl, rfl⟩ := h1
        refine t_callV 55 M_fo_firstDeed 1 1 [_] (ab_dd tk_s_best 28 rfl) rfl (by first | decide | omega) K_fo_firstDeed V_fo_firstDeed.1 V_fo_firstDeed.2 L_s_387 rfl (Nat.le_of_ble_eq_true rfl) (Nat.le_trans (by decide) hKF1.1) (Nat.lt_of_le_of_lt (Nat.le_add_right F 5) hKF1.2.1) hKF1.2.2.1 rfl (c_fo_firstDeed hKF1 hR1.2.2.2.1 ha.1 hR1.2.2.2.2.2.2.2.2.1 hT hrF1 hD1) (fun v1 w1 h1 => ?_)
        obtain ⟨⟨v0, rfl, hv0⟩, rfl⟩ := h1
        exact x_iret (ab_dd tk_s_best 29 rfl) ⟨v0, ⟨rfl, S1, a, s1, st2, rfl, hF1, hA1, hB1.up (by omega), hn1⟩, Or.inr ⟨by first | exact eNo | (rw [← ekq, ← ekm]; exact eNo), hv0⟩⟩
      · refine x_iconst 39 (-1) (ab_dd tk_s_best 20 rfl) rfl (by decide) ?_
        refine x_goto 55 (ab_dd tk_s_best 21 rfl) (by decide) ?_
        exact x_iret (ab_dd tk_s_best 29 rfl) ⟨-1, ⟨rfl, S, b, st, st2, rfl, fAs.rf, gA.rf, h.up (by omega), ht⟩, Or.inr ⟨by first | exact eNo | (rw [← ekq, ← ekm]; exact eNo), bs_W (hVW (by omega))⟩⟩
    · refine x_bipush 22 (-3) (ab_dd tk_s_best 11 rfl) rfl (by decide) ?_
      exact x_iret (ab_dd tk_s_best 12 rfl) ⟨-3, ⟨rfl, S, b, st, st2, rfl, fAs.rf, gA.rf, h.up (by omega), ht⟩, Or.inl (by unfold aNo; rw [if_pos h6, if_neg h17]; exact ⟨by decide, rfl⟩)⟩
  · refine x_bipush 11 (-2) (ab_dd tk_s_best 5 rfl) rfl (by decide) ?_
    exact x_iret (ab_dd tk_s_best 6 rfl) ⟨-2, ⟨rfl, S, b, st, st2, rfl, fAs.rf, gA.rf, h.up (by omega), ht⟩, Or.inl (by unfold aNo; rw [if_neg h6]; exact ⟨by decide, rfl⟩)⟩
