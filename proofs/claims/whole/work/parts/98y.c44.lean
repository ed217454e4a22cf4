/-! ===== deeds: what is kept of a climate ===== -/
/-- whether it remembers; and as long as the stamp stands, seasons and month -/
def kpX (S S' : ab_S) (x st st' : Nat) : Prop := sI S' x 1 = sI S x 1 ∧ (st' = st → sI S' x 3 = sI S x 3 ∧ sI S' x 4 = sI S x 4)
theorem kpX.rf {S : ab_S} {x st st' : Nat} : kpX S S x st st' := ⟨rfl, fun _ => ⟨rfl, rfl⟩⟩
theorem kpX.eq {S S1 S2 : ab_S} {x st st' : Nat} {l : List Nat} (h : kpX S S1 x st st') (hE : sEq l S1 S2) (hx : x ∉ l) : kpX S S2 x st st' := by
  unfold kpX
  rw [hE.2.2.1 x hx]
  exact h
theorem kpX.of {S S1 : ab_S} {x st st' : Nat} (h : sI S1 x = sI S x) : kpX S S1 x st st' := by
  unfold kpX
  rw [h]
  exact ⟨rfl, fun _ => ⟨rfl, rfl⟩⟩
theorem kpX.tr {S S1 S2 : ab_S} {x st st1 st2 : Nat} (h : kpX S S1 x st st1) (g : kpX S1 S2 x st1 st2) (h1 : st ≤ st1) (h2 : st1 ≤ st2) : kpX S S2 x st st2 := by
  refine ⟨g.1.trans h.1, fun z => ?_⟩
  obtain ⟨y1, y2⟩ := g.2 (by omega)
  obtain ⟨x1, x2⟩ := h.2 (by omega)
  exact ⟨y1.trans x1, y2.trans x2⟩
theorem c_cl_suppose2 {G : ab_G} {S : ab_S} {im : Nat → Prop} {x c bh nb st : Nat} {a : Nat → Int32} (hK : clK S x) (him : imO im) (hcl : clI S im x c a bh nb st) (ha : aOk a) {b : Nat → Int32} (hb : aOk b) (hs : sta a b) (hst : st + 1 < 2 ^ 20) : ab_C G 0 M_cl_suppose [.ref x, .int (nI (seaC b)), .int (b 40)] (sw S) (fun v w' => v = none ∧ ∃ S' st', w' = sw S' ∧ sEq [x] S S' ∧ clI S' im x c b bh nb st' ∧ kpX S S' x st st' ∧ st ≤ st' ∧ st' ≤ st + 1) := by
  rw [hb.m40.1]
  refine x_enter [some (.ref x), some (.int (nI (seaC b))), some (.int (nI (cN (b 40))))] (by decide) (Nat.le_of_ble_eq_true rfl) rfl (fun v w' h => by obtain ⟨rfl, -⟩ := h; trivial) ?_
  have g := hcl
  obtain ⟨a1, a2, a3, a4, a5, a6, a7, a8, a9, a10, a11, a12, b1, b2, b3⟩ := g
  have hxx := hK.1
  have hsl := seaC_lt hb
  have hsl2 := seaC_lt ha
  have hm := hb.m40
  have hm2 := ha.m40
  have a4b : sI S x 4 = nI (cN (a 40)) := a4.trans hm2.1
  have hnx : ¬ im x := fun z => by have := him x z; omega
  have new : clI (pI (pI (pI S x 3 (nI (seaC b))) x 4 (nI (cN (b 40)))) x 5 (nI (st + 1))) im x c b bh nb (st + 1) := by
    have hE : sEq [x] S (pI (pI (pI S x 3 (nI (seaC b))) x 4 (nI (cN (b 40)))) x 5 (nI (st + 1))) := ((sEq.rf.pI (List.Mem.head _)).pI (List.Mem.head _)).pI (List.Mem.head _)
    have ho : ∀ y, y ≠ x → sI (pI (pI (pI S x 3 (nI (seaC b))) x 4 (nI (cN (b 40)))) x 5 (nI (st + 1))) y = sI S y := fun y hy => hE.2.2.1 y (fun z => hy (List.mem_singleton.mp z))
    refine ⟨(a1.eq hE (fun y hy => by rw [List.mem_singleton.mp hy]; exact hnx)).sta hs, a2, (gI_k (by decide)).trans ((gI_k (by decide)).trans gI_s), (gI_k (by decide)).trans (gI_s.trans hm.1.symm), gI_s, ⟨by omega, hst⟩, a7, a8, a9, a10, a11, a12, b1.next (ho _ (by omega)), b2.next (ho _ (by omega)), b3.next (ho _ (by omega))⟩
  refine x_iload_n 1 1 (ab_dd tk_cl_suppose 0 rfl) rfl rfl rfl ?_
  refine x_aload_n 2 0 (ab_dd tk_cl_suppose 1 rfl) rfl rfl rfl ?_
  refine t_getI 5 (ab_dd tk_cl_suppose 2 rfl) rfl F_cl_18 (by rcases hK.1 with z | z <;> omega) (Nat.lt_of_le_of_lt (Nat.le_add_right x 9) hK.2.1) hK.2.2.1 rfl (x_topn (seaC a) a3 ?_)
  refine xn_icmp_ne 8 16 (ab_dd tk_cl_suppose 3 rfl) rfl (by decide) (by omega) (by omega) (fun h5 => ?_) (fun h5 => ?_)
  · refine x_aload_n 17 0 (ab_dd tk_cl_suppose 8 rfl) rfl rfl rfl ?_
    refine x_iload_n 18 1 (ab_dd tk_cl_suppose 9 rfl) rfl rfl rfl ?_
    refine t_putI 21 (ab_dd tk_cl_suppose 10 rfl) rfl F_cl_18 (by rcases hK.1 with z | z <;> omega) (Nat.lt_of_le_of_lt (Nat.le_add_right x 9) hK.2.1) hK.2.2.1 rfl rfl rfl ?_
    refine x_aload_n 22 0 (ab_dd tk_cl_suppose 11 rfl) rfl rfl rfl ?_
    refine x_iload_n 23 2 (ab_dd tk_cl_suppose 12 rfl) rfl rfl rfl ?_
    refine t_putI 26 (ab_dd tk_cl_suppose 13 rfl) rfl F_cl_22 (by rcases hK.1 with z | z <;> omega) (Nat.lt_of_le_of_lt (Nat.le_add_right x 9) hK.2.1) hK.2.2.1 rfl rfl rfl ?_
    refine x_aload_n 27 0 (ab_dd tk_cl_suppose 14 rfl) rfl rfl rfl ?_
    refine x_dup 28 (ab_dd tk_cl_suppose 15 rfl) rfl rfl ?_
    refine t_getI 31 (ab_dd tk_cl_suppose 16 rfl) rfl F_cl_25 (by rcases hK.1 with z | z <;> omega) (Nat.lt_of_le_of_lt (Nat.le_add_right x 9) hK.2.1) hK.2.2.1 rfl (x_topn st ((gI_k (by decide)).trans ((gI_k (by decide)).trans a5)) ?_)
    refine x_iconst 32 1 (ab_dd tk_cl_suppose 17 rfl) rfl (by decide) (x_topn 1 rfl ?_)
    refine x_iadd 33 (ab_dd tk_cl_suppose 18 rfl) rfl (x_topn (st + 1) (nI_add _ _) ?_)
    refine t_putI 36 (ab_dd tk_cl_suppose 19 rfl) rfl F_cl_25 (by rcases hK.1 with z | z <;> omega) (Nat.lt_of_le_of_lt (Nat.le_add_right x 9) hK.2.1) hK.2.2.1 rfl rfl rfl ?_
    exact x_vret (ab_dd tk_cl_suppose 20 rfl) ⟨rfl, _, st + 1, rfl, ((sEq.rf.pI (List.Mem.head _)).pI (List.Mem.head _)).pI (List.Mem.head _), new, ⟨(gI_k (by decide)).trans ((gI_k (by decide)).trans (gI_k (by decide))), fun z => absurd z (by omega)⟩, by omega, Nat.le_refl _⟩
  · refine x_iload_n 9 2 (ab_dd tk_cl_suppose 4 rfl) rfl rfl rfl ?_
    refine x_aload_n 10 0 (ab_dd tk_cl_suppose 5 rfl) rfl rfl rfl ?_
    refine t_getI 13 (ab_dd tk_cl_suppose 6 rfl) rfl F_cl_22 (by rcases hK.1 with z | z <;> omega) (Nat.lt_of_le_of_lt (Nat.le_add_right x 9) hK.2.1) hK.2.2.1 rfl (x_topn (cN (a 40)) a4b ?_)
    refine xn_icmp_eq 16 36 (ab_dd tk_cl_suppose 7 rfl) rfl (by decide) (by omega) (by omega) (fun h13 => ?_) (fun h13 => ?_)
    · exact x_vret (ab_dd tk_cl_suppose 20 rfl) ⟨rfl, S, st, rfl, sEq.rf, hcl.alk ⟨hs, fun r hr => by rw [← seaC_v hb hr, ← seaC_v ha hr, h5], by rw [hm.1, hm2.1, h13]⟩, kpX.rf, Nat.le_refl _, by omega⟩
    · refine x_aload_n 17 0 (ab_dd tk_cl_suppose 8 rfl) rfl rfl rfl ?_
      refine x_iload_n 18 1 (ab_dd tk_cl_suppose 9 rfl) rfl rfl rfl ?_
      refine t_putI 21 (ab_dd tk_cl_suppose 10 rfl) rfl F_cl_18 (by rcases hK.1 with z | z <;> omega) (Nat.lt_of_le_of_lt (Nat.le_add_right x 9) hK.2.1) hK.2.2.1 rfl rfl rfl ?_
      refine x_aload_n 22 0 (ab_dd tk_cl_suppose 11 rfl) rfl rfl rfl ?_
      refine x_iload_n 23 2 (ab_dd tk_cl_suppose 12 rfl) rfl rfl rfl ?_
      refine t_putI 26 (ab_dd tk_cl_suppose 13 rfl) rfl F_cl_22 (by rcases hK.1 with z | z <;> omega) (Nat.lt_of_le_of_lt (Nat.le_add_right x 9) hK.2.1) hK.2.2.1 rfl rfl rfl ?_
      refine x_aload_n 27 0 (ab_dd tk_cl_suppose 14 rfl) rfl rfl rfl ?_
      refine x_dup 28 (ab_dd tk_cl_suppose 15 rfl) rfl rfl ?_
      refine t_getI 31 (ab_dd tk_cl_suppose 16 rfl) rfl F_cl_25 (by rcases hK.1 with z | z <;> omega) (Nat.lt_of_le_of_lt (Nat.le_add_right x 9) hK.2.1) hK.2.2.1 rfl (x_topn st ((gI_k (by decide)).trans ((gI_k (by decide)).trans a5)) ?_)
      refine x_iconst 32 1 (ab_dd tk_cl_suppose 17 rfl) rfl (by decide) (x_topn 1 rfl ?_)
      refine x_iadd 33 (ab_dd tk_cl_suppose 18 rfl) rfl (x_topn (st + 1) (nI_add _ _) ?_)
      refine t_putI 36 (ab_dd tk_cl_suppose 19 rfl) rfl F_cl_25 (by rcases hK.1 with z | z <;> omega) (Nat.lt_of_le_of_lt (Nat.le_add_right x 9) hK.2.1) hK.2.2.1 rfl rfl rfl ?_
      exact x_vret (ab_dd tk_cl_suppose 20 rfl) ⟨rfl, _, st + 1, rfl, ((sEq.rf.pI (List.Mem.head _)).pI (List.Mem.head _)).pI (List.Mem.head _), new, ⟨(gI_k (by decide)).trans ((gI_k (by decide)).trans (gI_k (by decide))), fun z => absurd z (by omega)⟩, by omega, Nat.le_refl _⟩
theorem c_s_actStop2 {G : ab_G} {S : ab_S} (hx : xSh S) (hse : seOk S) (kc : kSh S.1) {im : Nat → Prop} (him : imO im) {x c bh nb st : Nat} {a : Nat → Int32} (hX : x = 84 ∨ x = 94) (hcx : clX S im x c a bh nb st) (ha : aGood a) (hst : st + 1 < 2 ^ 20) {t : Nat} (htt : t = 55 ∨ t = 56) (ht : sdE S t (rowT a)) (d : Nat) (hd : d < 4) : ab_C G 4 M_s_actStop [.ref 50, .ref x, .ref t, .int (nI d)] (sw S) (fun v w' => v = some (.int (nI (aY a (a 40) (aE a) d))) ∧ ∃ S' st', w' = sw S' ∧ sEq [x, x + 5, x + 6, x + 7, x + 8, x + 9, bh, t] S S' ∧ clX S' im x c a bh nb st' ∧ kpX S S' x st st' ∧ st ≤ st' ∧ st' ≤ st + 1 ∧ sdE S' t (rowT (if aY a (a 40) (aE a) d = 0 then aGo a d else a))) := by
  refine x_enter [some (.ref 50), some (.ref x), some (.ref t), some (.int (nI d)), none] (by decide) (Nat.le_of_ble_eq_true rfl) rfl (fun v w' h => by obtain ⟨rfl, -⟩ := h; rfl) ?_
  obtain ⟨b, hb1, hb2, hcl⟩ := hcx
  have hK : clK S x := hx.cl hX
  have hcl0 := hcl
  obtain ⟨-, -, -, -, -, -, -, -, -, -, hnb, hbh, -⟩ := hcl0
  obtain ⟨hq, hw, hE⟩ := rowT_in ha.1
  have hR := ha.1.R.2
  have h6 := p5_6 hR
  have hq24 := Nat.lt_of_lt_of_le hq (kFc_le (aR a))
  have htk := x_55 hx htt
  have hnt : ¬ im t := fun z => by have := him t z; omega
  have h40 : sI S t 3 = a 40 := ht.2.2.2.1.trans ha.1.m40.1.symm
  have haY : aY a (a 40) (aE a) d = aY a (a 40) (cSt (aR a) (aW a) (aQ a)) d := by rw [← hE]
  refine x_aload_n 1 1 (ab_dd tk_s_actStop 0 rfl) rfl rfl rfl ?_
  refine x_aload_n 2 2 (ab_dd tk_s_actStop 1 rfl) rfl rfl rfl ?_
  refine t_getI 5 (ab_dd tk_s_actStop 2 rfl) rfl F_s_134 htk.1 htk.2.1 htk.2.2 rfl (x_topn (seaC a) ht.1 ?_)
  refine x_aload_n 6 2 (ab_dd tk_s_actStop 3 rfl) rfl rfl rfl ?_
  refine t_getI 9 (ab_dd tk_s_actStop 4 rfl) rfl F_s_180 htk.1 htk.2.1 htk.2.2 rfl (x_topx (a 40) h40 ?_)
  refine t_callV 12 M_cl_suppose 0 2 [_, _] (ab_dd tk_s_actStop 5 rfl) rfl (by first | decide | omega) K_cl_suppose V_cl_suppose.1 V_cl_suppose.2 L_s_183 rfl (Nat.le_of_ble_eq_true rfl) (by rcases hK.1 with z | z <;> omega) (Nat.lt_of_le_of_lt (Nat.le_add_right x 9) hK.2.1) hK.2.2.1 rfl (c_cl_suppose2 (by exact hK) him (by exact hcl) hb1 ha.1 hb2.sy hst) (fun v1 w1 h1 => ?_)
  obtain ⟨rfl, S1, st1, rfl, hE1, hcl1, hkp, hs1, hs2⟩ := h1
  have hx1 : xSh S1 := hx.eq hE1
  have hK1 : clK S1 x := hK.eq hE1
  have hse1 : seOk S1 := hse.eq hE1 (by simp only [List.mem_cons, List.not_mem_nil, or_false, not_or]; omega) (by simp only [List.mem_cons, List.not_mem_nil, or_false, not_or]; omega) (by simp only [List.mem_cons, List.not_mem_nil, or_false, not_or]; omega) (by simp only [List.mem_cons, List.not_mem_nil, or_false, not_or]; omega)
  have kc1 : kSh S1.1 := by rw [hE1.1]; exact kc
  have ht1 : sdE S1 t (rowT a) := ht.eq hE1 (by simp only [List.mem_cons, List.not_mem_nil, or_false, not_or]; omega)
  have htn1 : t < sn S1 := by rw [hE1.2.2.2.2.2.1]; exact htk.2.1
  have htK1 : sK S1 t = .inr 8 := by rw [hE1.2.1]; exact htk.2.2
  refine x_aload_n 13 1 (ab_dd tk_s_actStop 6 rfl) rfl rfl rfl ?_
  refine x_iload_n 14 3 (ab_dd tk_s_actStop 7 rfl) rfl rfl rfl ?_
  refine x_aload_n 15 2 (ab_dd tk_s_actStop 8 rfl) rfl rfl rfl ?_
  refine t_getI 18 (ab_dd tk_s_actStop 9 rfl) rfl F_s_145 htk.1 htn1 htK1 rfl (x_topn (aW a) ht1.2.1 ?_)
  refine x_aload_n 19 2 (ab_dd tk_s_actStop 10 rfl) rfl rfl rfl ?_
  refine t_getI 22 (ab_dd tk_s_actStop 11 rfl) rfl F_s_151 htk.1 htn1 htK1 rfl (x_topn (aQ a) ht1.2.2.1 ?_)
  refine t_callV 25 M_cl_whyNot 3 3 [_, _, _] (ab_dd tk_s_actStop 12 rfl) rfl (by first | decide | omega) K_cl_whyNot V_cl_whyNot.1 V_cl_whyNot.2 L_s_167 rfl (Nat.le_of_ble_eq_true rfl) (by rcases hK1.1 with z | z <;> omega) (Nat.lt_of_le_of_lt (Nat.le_add_right x 9) hK1.2.1) hK1.2.2.1 rfl (c_cl_whyNot (by exact hK1) him (by exact hcl1) hx1 hse1 kc1 ha d (aW a) (aQ a) (by omega) (by omega) hq) (fun v1 w1 h1 => ?_)
  obtain ⟨rfl, S2, rfl, hE2, hcl2⟩ := h1
  rw [← haY]
  have hx2 : xSh S2 := hx1.eq hE2
  have hK2 : clK S2 x := hK1.eq hE2
  have hse2 : seOk S2 := hse1.eq hE2 (by simp only [List.mem_cons, List.not_mem_nil, or_false, not_or]; omega) (by simp only [List.mem_cons, List.not_mem_nil, or_false, not_or]; omega) (by simp only [List.mem_cons, List.not_mem_nil, or_false, not_or]; omega) (by simp only [List.mem_cons, List.not_mem_nil, or_false, not_or]; omega)
  have kc2 : kSh S2.1 := by rw [hE2.1]; exact kc1
  have ht2 : sdE S2 t (rowT a) := ht1.eq hE2 (by simp only [List.mem_cons, List.not_mem_nil, or_false, not_or]; omega)
  have htn2 : t < sn S2 := by rw [hE2.2.2.2.2.2.1]; exact htn1
  have htK2 : sK S2 t = .inr 8 := by rw [hE2.2.1]; exact htK1
  have hEa : sEq [x, x + 5, x + 6, x + 7, x + 8, x + 9, bh, t] S S2 := (hE1.mono (fun y hy => by rw [List.mem_singleton.mp hy]; exact List.Mem.head _)).tr (hE2.mono (fun y hy => by simp only [List.mem_cons, List.not_mem_nil, or_false] at hy ⊢; omega))
  have hY2 : aY a (a 40) (aE a) d < 3 := aY_lt _ _ _ _
  refine x_istore 27 [some (.ref 50), some (.ref x), some (.ref t), some (.int (nI d)), some (.int (nI (aY a (a 40) (aE a) d)))] 4 (ab_dd tk_s_actStop 13 rfl) rfl (by decide) rfl ?_
  refine x_iload 29 4 (ab_dd tk_s_actStop 14 rfl) rfl rfl ?_
  refine xn_if_ne 32 74 (ab_dd tk_s_actStop 15 rfl) rfl (by decide) (by omega) (fun h29 => ?_) (fun h29 => ?_)
  · refine x_iload 76 4 (ab_dd tk_s_actStop 38 rfl) rfl rfl ?_
    exact x_iret (ab_dd tk_s_actStop 39 rfl) ⟨rfl, S2, st1, rfl, hEa, ⟨a, ha.1, sta.rf, hcl2⟩, hkp.eq hE2 (by simp only [List.mem_cons, List.not_mem_nil, or_false, not_or]; omega), hs1, hs2, by rw [if_neg (by omega)]; exact ht2⟩
  · have hdR : d < aR a ∨ d = 0 := aY_0 h29
    have hcq := (cB_sw0 hR hq hw hdR).2
    refine x_aload_n 33 2 (ab_dd tk_s_actStop 16 rfl) rfl rfl rfl ?_
    refine x_aload_n 34 0 (ab_dd tk_s_actStop 17 rfl) rfl rfl rfl ?_
    refine t_getP 37 78 (ab_dd tk_s_actStop 18 rfl) rfl F_s_68 (by decide) (Nat.lt_of_lt_of_le (by decide) hx2.1) (hx2.2.1 0 (by decide)) rfl (hx2.2.2 (50, 11, 78) (by decide)) ?_
    refine x_aload_n 38 2 (ab_dd tk_s_actStop 19 rfl) rfl rfl rfl ?_
    refine t_getI 41 (ab_dd tk_s_actStop 20 rfl) rfl F_s_151 htk.1 htn2 htK2 rfl (x_topn (aQ a) ht2.2.2.1 ?_)
    refine x_iload_n 42 3 (ab_dd tk_s_actStop 21 rfl) rfl rfl rfl ?_
    refine t_callV 45 M_se_changed 0 2 [_, _] (ab_dd tk_s_actStop 22 rfl) rfl (by first | decide | omega) K_se_changed V_se_changed.1 V_se_changed.2 L_s_171 rfl (Nat.le_of_ble_eq_true rfl) (by decide) (Nat.lt_of_lt_of_le (by decide) hx2.1) (hx2.2.1 28 (by decide)) rfl (c_se_changed (by exact hx2) (by exact hse2) (aQ a) d (by omega) (by omega)) (fun v1 w1 h1 => ?_)
    obtain ⟨rfl, rfl⟩ := h1
    refine t_putI 48 (ab_dd tk_s_actStop 23 rfl) rfl F_s_151 htk.1 htn2 htK2 rfl rfl rfl ?_
    refine x_aload_n 49 2 (ab_dd tk_s_actStop 24 rfl) rfl rfl rfl ?_
    refine x_aload_n 50 1 (ab_dd tk_s_actStop 25 rfl) rfl rfl rfl ?_
    refine x_aload_n 51 2 (ab_dd tk_s_actStop 26 rfl) rfl rfl rfl ?_
    refine t_getI 54 (ab_dd tk_s_actStop 27 rfl) rfl F_s_145 htk.1 htn2 htK2 rfl (x_topn (aW a) ((gI_k (by decide)).trans ht2.2.1) ?_)
    refine x_aload_n 55 2 (ab_dd tk_s_actStop 28 rfl) rfl rfl rfl ?_
    refine t_getI 58 (ab_dd tk_s_actStop 29 rfl) rfl F_s_151 htk.1 htn2 htK2 rfl (x_topn (qCh (aQ a) d) gI_s ?_)
    have hE3 : sEq [t] S2 (pI S2 t 2 (nI (qCh (aQ a) d))) := sEq.rf.pI (List.Mem.head _)
    have hclT : clI (pI S2 t 2 (nI (qCh (aQ a) d))) im x c a bh nb st1 := hcl2.eq hE3 (by simp only [List.mem_cons, List.not_mem_nil, or_false, not_or]; omega) (fun y hy => by rw [List.mem_singleton.mp hy]; exact hnt) (by simp only [List.mem_cons, List.not_mem_nil, or_false, not_or]; omega) (by simp only [List.mem_cons, List.not_mem_nil, or_false, not_or]; omega) (by simp only [List.mem_cons, List.not_mem_nil, or_false, not_or]; omega)
    have hseT : seOk (pI S2 t 2 (nI (qCh (aQ a) d))) := hse2.eq hE3 (by simp only [List.mem_cons, List.not_mem_nil, or_false, not_or]; omega) (by simp only [List.mem_cons, List.not_mem_nil, or_false, not_or]; omega) (by simp only [List.mem_cons, List.not_mem_nil, or_false, not_or]; omega) (by simp only [List.mem_cons, List.not_mem_nil, or_false, not_or]; omega)
    refine t_callV 61 M_cl_behind 3 2 [_, _] (ab_dd tk_s_actStop 30 rfl) rfl (by first | decide | omega) K_cl_behind V_cl_behind.1 V_cl_behind.2 L_s_174 rfl (Nat.le_of_ble_eq_true rfl) (by rcases hK2.1 with z | z <;> omega) (Nat.lt_of_le_of_lt (Nat.le_add_right x 9) hK2.2.1) hK2.2.2.1 rfl (c_cl_behind (by exact hK2) him hclT (by exact hx2) hseT (by exact kc2) ha (aW a) (qCh (aQ a) d) hw hcq) (fun v1 w1 h1 => ?_)
    obtain ⟨rfl, S4, rfl, hE4, hcl4⟩ := h1
    have hx4 : xSh S4 := xSh.eq (by exact hx2) hE4
    have hK4 : clK S4 x := clK.eq (by exact hK2) hE4
    have htn4 : t < sn S4 := by rw [hE4.2.2.2.2.2.1]; exact htn2
    have htK4 : sK S4 t = .inr 8 := by rw [hE4.2.1]; exact htK2
    have v0 : sI S4 t 0 = nI (seaC a) := (congrFun (hE4.2.2.1 t (by simp only [List.mem_cons, List.not_mem_nil, or_false, not_or]; omega)) 0).trans ((gI_k (by decide)).trans ht2.1)
    have v2 : sI S4 t 2 = nI (qCh (aQ a) d) := (congrFun (hE4.2.2.1 t (by simp only [List.mem_cons, List.not_mem_nil, or_false, not_or]; omega)) 2).trans (gI_s)
    have v3 : sI S4 t 3 = nI (cN (a 40)) := (congrFun (hE4.2.2.1 t (by simp only [List.mem_cons, List.not_mem_nil, or_false, not_or]; omega)) 3).trans ((gI_k (by decide)).trans ht2.2.2.2.1)
    have v4 : sI S4 t 4 = a 41 := (congrFun (hE4.2.2.1 t (by simp only [List.mem_cons, List.not_mem_nil, or_false, not_or]; omega)) 4).trans ((gI_k (by decide)).trans ht2.2.2.2.2)
    have hEb : sEq [x, x + 5, x + 6, x + 7, x + 8, x + 9, bh, t] S S4 := (hEa.tr (hE3.mono (fun y hy => by rw [List.mem_singleton.mp hy]; simp))).tr (hE4.mono (fun y hy => by simp only [List.mem_cons, List.not_mem_nil, or_false] at hy ⊢; omega))
    refine t_putI 64 (ab_dd tk_s_actStop 31 rfl) rfl F_s_145 htk.1 htn4 htK4 rfl rfl rfl ?_
    refine x_aload_n 65 2 (ab_dd tk_s_actStop 32 rfl) rfl rfl rfl ?_
    refine x_dup 66 (ab_dd tk_s_actStop 33 rfl) rfl rfl ?_
    refine t_getI 69 (ab_dd tk_s_actStop 34 rfl) rfl F_s_263 htk.1 htn4 htK4 rfl (x_topx (a 41) ((gI_k (by decide)).trans v4) ?_)
    refine x_iconst 70 1 (ab_dd tk_s_actStop 35 rfl) rfl (by decide) (x_topn 1 rfl ?_)
    refine x_iadd 71 (ab_dd tk_s_actStop 36 rfl) rfl (x_topx (a 41 + 1) rfl ?_)
    refine t_putI 74 (ab_dd tk_s_actStop 37 rfl) rfl F_s_263 htk.1 htn4 htK4 rfl rfl rfl ?_
    refine x_iload 76 4 (ab_dd tk_s_actStop 38 rfl) rfl rfl ?_
    have hE5 : sEq [t] S4 (pI (pI S4 t 1 (nI (cB a (aW a) (qCh (aQ a) d)))) t 4 (a 41 + 1)) := (sEq.rf.pI (List.Mem.head _)).pI (List.Mem.head _)
    exact x_iret (ab_dd tk_s_actStop 39 rfl) ⟨rfl, _, st1, rfl, hEb.tr (hE5.mono (fun y hy => by rw [List.mem_singleton.mp hy]; simp)), ⟨a, ha.1, sta.rf, hcl4.eq hE5 (by simp only [List.mem_cons, List.not_mem_nil, or_false, not_or]; omega) (fun y hy => by rw [List.mem_singleton.mp hy]; exact hnt) (by simp only [List.mem_cons, List.not_mem_nil, or_false, not_or]; omega) (by simp only [List.mem_cons, List.not_mem_nil, or_false, not_or]; omega) (by simp only [List.mem_cons, List.not_mem_nil, or_false, not_or]; omega)⟩, (((hkp.eq hE2 (by simp only [List.mem_cons, List.not_mem_nil, or_false, not_or]; omega)).eq hE3 (by simp only [List.mem_cons, List.not_mem_nil, or_false, not_or]; omega)).eq hE4 (by simp only [List.mem_cons, List.not_mem_nil, or_false, not_or]; omega)).eq hE5 (by simp only [List.mem_cons, List.not_mem_nil, or_false, not_or]; omega), hs1, hs2, by rw [if_pos h29, rowT_go ha.1 hdR]; exact ⟨((gI_k (by decide)).trans ((gI_k (by decide)).trans v0)), ((gI_k (by decide)).trans gI_s), ((gI_k (by decide)).trans ((gI_k (by decide)).trans v2)), ((gI_k (by decide)).trans ((gI_k (by decide)).trans v3)), gI_s⟩⟩
theorem c_s_act2 {G : ab_G} {S : ab_S} (hx : xSh S) (hse : seOk S) (kc : kSh S.1) {im : Nat → Prop} (him : imO im) {x c bh nb st : Nat} {a : Nat → Int32} (hX : x = 84 ∨ x = 94) (hcx : clX S im x c a bh nb st) (ha : aGood a) (hst : st + 1 < 2 ^ 20) {t : Nat} (htt : t = 55 ∨ t = 56) (ht : sdE S t (rowT a)) (hc : sP S 50 2 = some c) (v0 : Int64) : ab_C G 5 M_s_act [.ref 50, .ref x, .ref t, .long v0] (sw S) (fun v w' => v = some (.int (nI (aWy a v0))) ∧ ∃ S' st', w' = sw S' ∧ sEq [x, x + 5, x + 6, x + 7, x + 8, x + 9, bh, t] S S' ∧ clX S' im x c a bh nb st' ∧ kpX S S' x st st' ∧ st ≤ st' ∧ st' ≤ st + 1 ∧ sdE S' t (rowT (if aWy a v0 = 0 then aDo a (jW v0) else a))) := by
  refine x_enter [some (.ref 50), some (.ref x), some (.ref t), some (.long v0), none, none] (by decide) (Nat.le_of_ble_eq_true rfl) rfl (fun v w' h => by obtain ⟨rfl, -⟩ := h; rfl) ?_
  have hcx0 := hcx
  obtain ⟨b, hb1, hb2, hcl⟩ := hcx0
  have hcl0 := hcl
  obtain ⟨hca, -, -, -, -, -, -, -, -, -, hnb, hbh, -⟩ := hcl0
  have hcaA : caI S im c a := hca.sta hb2.sy
  have hcaB := hcaA
  obtain ⟨hk, c1, -⟩ := hcaB
  have htk := x_55 hx htt
  have hR := ha.1.R.2
  have h6 := p5_6 hR
  obtain ⟨hqq, hww, hEE⟩ := rowT_in ha.1
  have hnt : ¬ im t := fun z => by have := him t z; omega
  have h50 : 50 ≤ sn S := Nat.le_trans (by decide) hx.1
  have no : ¬ (0 ≤ v0 ∧ v0 ≤ 199) → ab_Ex G 5 M_s_act 140 [some (.ref 50), some (.ref x), some (.ref t), some (.long v0), none, none] [] (sw S) (fun v w' => v = some (.int (nI (aWy a v0))) ∧ ∃ S' st', w' = sw S' ∧ sEq [x, x + 5, x + 6, x + 7, x + 8, x + 9, bh, t] S S' ∧ clX S' im x c a bh nb st' ∧ kpX S S' x st st' ∧ st ≤ st' ∧ st' ≤ st + 1 ∧ sdE S' t (rowT (if aWy a v0 = 0 then aDo a (jW v0) else a))) := by
    intro hno
    have e : aWy a v0 = 1 := if_neg hno
    refine x_iconst 141 1 (ab_dd tk_s_act 82 rfl) rfl (by decide) (x_topn 1 rfl ?_)
    exact x_iret (ab_dd tk_s_act 83 rfl) ⟨rI (by rw [e]), S, st, rfl, sEq.rf, hcx, kpX.rf, Nat.le_refl _, by omega, by rw [e, if_neg (by decide)]; exact ht⟩
  by_cases hin : 0 ≤ v0 ∧ v0 ≤ 199
  · obtain ⟨u, hu, rfl, hju⟩ := jW_get (n := 199) (by decide) hin
    rw [hju, aWy_N hu]
    have hti := lN_toInt (show u < 2 ^ 31 by omega)
    have e0 : ((0 : Int64).toInt) = 0 := by decide
    have e4 : ((4 : Int64).toInt) = 4 := by decide
    have e10 : ((10 : Int64).toInt) = 10 := by decide
    have e20 : ((20 : Int64).toInt) = 20 := by decide
    have e30 : ((30 : Int64).toInt) = 30 := by decide
    have e100 : ((100 : Int64).toInt) = 100 := by decide
    have e199 : ((199 : Int64).toInt) = 199 := by decide
    have el : (lN u).toInt32 = nI u := lN_32 (by omega)
    by_cases hz_stop : u ≤ 3
    · refine x_lload_n 1 3 (ab_dd tk_s_act 0 rfl) rfl rfl rfl ?_
      refine x_lconst 2 0 (ab_dd tk_s_act 1 rfl) rfl (by decide) ?_
      refine x_lcmp 3 (ab_dd tk_s_act 2 rfl) rfl ?_
      refine x_if_lt_f 6 (ab_dd tk_s_act 3 rfl) rfl 23 (by decide) (by first | (rw [lg_cmp_lt, Int64.lt_iff_toInt_lt]; omega) | (rw [lg_cmp_ge, Int64.le_iff_toInt_le]; omega) | (rw [lg_cmp_gt, Int64.lt_iff_toInt_lt]; omega)) ?_
      refine x_lload_n 7 3 (ab_dd tk_s_act 4 rfl) rfl rfl rfl ?_
      refine x_ldc2 10 (ab_dd tk_s_act 5 rfl) rfl C_s_240 ?_
      refine x_lcmp 11 (ab_dd tk_s_act 6 rfl) rfl ?_
      refine x_if_ge_f 14 (ab_dd tk_s_act 7 rfl) rfl 23 (by decide) (by first | (rw [lg_cmp_lt, Int64.lt_iff_toInt_lt]; omega) | (rw [lg_cmp_ge, Int64.le_iff_toInt_le]; omega) | (rw [lg_cmp_gt, Int64.lt_iff_toInt_lt]; omega)) ?_
      refine x_aload_n 15 0 (ab_dd tk_s_act 8 rfl) rfl rfl rfl ?_
      refine x_aload_n 16 1 (ab_dd tk_s_act 9 rfl) rfl rfl rfl ?_
      refine x_aload_n 17 2 (ab_dd tk_s_act 10 rfl) rfl rfl rfl ?_
      refine x_lload_n 18 3 (ab_dd tk_s_act 11 rfl) rfl rfl rfl ?_
      refine x_l2i 19 (ab_dd tk_s_act 12 rfl) rfl (x_topn u el ?_)
      refine t_callV 22 M_s_actStop 4 3 [_, _, _] (ab_dd tk_s_act 13 rfl) rfl (by first | decide | omega) K_s_actStop V_s_actStop.1 V_s_actStop.2 L_s_242 rfl (Nat.le_of_ble_eq_true rfl) (by decide) (Nat.lt_of_lt_of_le (by decide) hx.1) (hx.2.1 0 (by decide)) rfl (c_s_actStop2 hx hse kc him hX hcx ha hst htt ht u (by omega)) (fun v1 w1 h1 => ?_)
      obtain ⟨rfl, S1, st1, rfl, hE1, hcl1, hkp, hs1, hs2, ht1⟩ := h1
      have e : aDw a u = aY a (a 40) (aE a) u := if_pos (by omega)
      have eo : aDo a u = aGo a u := if_pos (by omega)
      exact x_iret (ab_dd tk_s_act 14 rfl) ⟨rI (by rw [e]), S1, st1, rfl, hE1, hcl1, hkp, hs1, hs2, by rw [e, eo]; exact ht1⟩
    · skip
      by_cases hz_gap1 : u < 10
      · refine x_lload_n 1 3 (ab_dd tk_s_act 0 rfl) rfl rfl rfl ?_
        refine x_lconst 2 0 (ab_dd tk_s_act 1 rfl) rfl (by decide) ?_
        refine x_lcmp 3 (ab_dd tk_s_act 2 rfl) rfl ?_
        refine x_if_lt_f 6 (ab_dd tk_s_act 3 rfl) rfl 23 (by decide) (by first | (rw [lg_cmp_lt, Int64.lt_iff_toInt_lt]; omega) | (rw [lg_cmp_ge, Int64.le_iff_toInt_le]; omega) | (rw [lg_cmp_gt, Int64.lt_iff_toInt_lt]; omega)) ?_
        refine x_lload_n 7 3 (ab_dd tk_s_act 4 rfl) rfl rfl rfl ?_
        refine x_ldc2 10 (ab_dd tk_s_act 5 rfl) rfl C_s_240 ?_
        refine x_lcmp 11 (ab_dd tk_s_act 6 rfl) rfl ?_
        refine x_if_ge_t 23 (ab_dd tk_s_act 7 rfl) (by decide) (by first | (rw [lg_cmp_lt, Int64.lt_iff_toInt_lt]; omega) | (rw [lg_cmp_ge, Int64.le_iff_toInt_le]; omega) | (rw [lg_cmp_gt, Int64.lt_iff_toInt_lt]; omega)) ?_
        refine x_lload_n 24 3 (ab_dd tk_s_act 15 rfl) rfl rfl rfl ?_
        refine x_ldc2 27 (ab_dd tk_s_act 16 rfl) rfl C_s_246 ?_
        refine x_lcmp 28 (ab_dd tk_s_act 17 rfl) rfl ?_
        refine x_if_lt_t 74 (ab_dd tk_s_act 18 rfl) (by decide) (by first | (rw [lg_cmp_lt, Int64.lt_iff_toInt_lt]; omega) | (rw [lg_cmp_ge, Int64.le_iff_toInt_le]; omega) | (rw [lg_cmp_gt, Int64.lt_iff_toInt_lt]; omega)) ?_
        refine x_lload_n 75 3 (ab_dd tk_s_act 43 rfl) rfl rfl rfl ?_
        refine x_ldc2 78 (ab_dd tk_s_act 44 rfl) rfl C_s_248 ?_
        refine x_lcmp 79 (ab_dd tk_s_act 45 rfl) rfl ?_
        refine x_if_lt_t 101 (ab_dd tk_s_act 46 rfl) (by decide) (by first | (rw [lg_cmp_lt, Int64.lt_iff_toInt_lt]; omega) | (rw [lg_cmp_ge, Int64.le_iff_toInt_le]; omega) | (rw [lg_cmp_gt, Int64.lt_iff_toInt_lt]; omega)) ?_
        refine x_lload_n 102 3 (ab_dd tk_s_act 59 rfl) rfl rfl rfl ?_
        refine x_ldc2 105 (ab_dd tk_s_act 60 rfl) rfl C_s_255 ?_
        refine x_lcmp 106 (ab_dd tk_s_act 61 rfl) rfl ?_
        refine x_if_lt_t 140 (ab_dd tk_s_act 62 rfl) (by decide) (by first | (rw [lg_cmp_lt, Int64.lt_iff_toInt_lt]; omega) | (rw [lg_cmp_ge, Int64.le_iff_toInt_le]; omega) | (rw [lg_cmp_gt, Int64.lt_iff_toInt_lt]; omega)) ?_
        refine x_iconst 141 1 (ab_dd tk_s_act 82 rfl) rfl (by decide) (x_topn 1 rfl ?_)
        have e : aDw a u = 1 := by unfold aDw; rw [if_neg (by omega), if_pos (by omega)]
        exact x_iret (ab_dd tk_s_act 83 rfl) ⟨rI (by rw [e]), S, st, rfl, sEq.rf, hcx, kpX.rf, Nat.le_refl _, by omega, by rw [e, if_neg (by decide)]; exact ht⟩
      · skip
        by_cases hz_rug : u ≤ 19
        · refine x_lload_n 1 3 (ab_dd tk_s_act 0 rfl) rfl rfl rfl ?_
          refine x_lconst 2 0 (ab_dd tk_s_act 1 rfl) rfl (by decide) ?_
          refine x_lcmp 3 (ab_dd tk_s_act 2 rfl) rfl ?_
          refine x_if_lt_f 6 (ab_dd tk_s_act 3 rfl) rfl 23 (by decide) (by first | (rw [lg_cmp_lt, Int64.lt_iff_toInt_lt]; omega) | (rw [lg_cmp_ge, Int64.le_iff_toInt_le]; omega) | (rw [lg_cmp_gt, Int64.lt_iff_toInt_lt]; omega)) ?_
          refine x_lload_n 7 3 (ab_dd tk_s_act 4 rfl) rfl rfl rfl ?_
          refine x_ldc2 10 (ab_dd tk_s_act 5 rfl) rfl C_s_240 ?_
          refine x_lcmp 11 (ab_dd tk_s_act 6 rfl) rfl ?_
          refine x_if_ge_t 23 (ab_dd tk_s_act 7 rfl) (by decide) (by first | (rw [lg_cmp_lt, Int64.lt_iff_toInt_lt]; omega) | (rw [lg_cmp_ge, Int64.le_iff_toInt_le]; omega) | (rw [lg_cmp_gt, Int64.lt_iff_toInt_lt]; omega)) ?_
          refine x_lload_n 24 3 (ab_dd tk_s_act 15 rfl) rfl rfl rfl ?_
          refine x_ldc2 27 (ab_dd tk_s_act 16 rfl) rfl C_s_246 ?_
          refine x_lcmp 28 (ab_dd tk_s_act 17 rfl) rfl ?_
          refine x_if_lt_f 31 (ab_dd tk_s_act 18 rfl) rfl 74 (by decide) (by first | (rw [lg_cmp_lt, Int64.lt_iff_toInt_lt]; omega) | (rw [lg_cmp_ge, Int64.le_iff_toInt_le]; omega) | (rw [lg_cmp_gt, Int64.lt_iff_toInt_lt]; omega)) ?_
          refine x_lload_n 32 3 (ab_dd tk_s_act 19 rfl) rfl rfl rfl ?_
          refine x_ldc2 35 (ab_dd tk_s_act 20 rfl) rfl C_s_248 ?_
          refine x_lcmp 36 (ab_dd tk_s_act 21 rfl) rfl ?_
          refine x_if_ge_f 39 (ab_dd tk_s_act 22 rfl) rfl 74 (by decide) (by first | (rw [lg_cmp_lt, Int64.lt_iff_toInt_lt]; omega) | (rw [lg_cmp_ge, Int64.le_iff_toInt_le]; omega) | (rw [lg_cmp_gt, Int64.lt_iff_toInt_lt]; omega)) ?_
          refine x_aload_n 40 0 (ab_dd tk_s_act 23 rfl) rfl rfl rfl ?_
          refine x_lload_n 41 3 (ab_dd tk_s_act 24 rfl) rfl rfl rfl ?_
          refine x_ldc2 44 (ab_dd tk_s_act 25 rfl) rfl C_s_246 ?_
          refine x_lsub 45 (ab_dd tk_s_act 26 rfl) rfl (x_topL (lN (u - 10)) (show lN u - lN 10 = lN (u - 10) from lN_sub (show 10 ≤ u by omega)) ?_)
          refine t_callV 48 M_s_isRider 0 1 [_] (ab_dd tk_s_act 27 rfl) rfl (by first | decide | omega) K_s_isRider V_s_isRider.1 V_s_isRider.2 L_s_130 rfl (Nat.le_of_ble_eq_true rfl) (by decide) (Nat.lt_of_lt_of_le (by decide) hx.1) (hx.2.1 0 (by decide)) rfl (cx_isRiderN (by exact hx) hc (by exact hk) hR c1 (u - 10) (by omega)) (fun v1 w1 h1 => ?_)
          obtain ⟨rfl, rfl⟩ := h1
          refine xb_if_eq 51 74 (ab_dd tk_s_act 28 rfl) rfl (by decide) (fun h48 => ?_) (fun h48 => ?_)
          · refine x_lload_n 75 3 (ab_dd tk_s_act 43 rfl) rfl rfl rfl ?_
            refine x_ldc2 78 (ab_dd tk_s_act 44 rfl) rfl C_s_248 ?_
            refine x_lcmp 79 (ab_dd tk_s_act 45 rfl) rfl ?_
            refine x_if_lt_t 101 (ab_dd tk_s_act 46 rfl) (by decide) (by first | (rw [lg_cmp_lt, Int64.lt_iff_toInt_lt]; omega) | (rw [lg_cmp_ge, Int64.le_iff_toInt_le]; omega) | (rw [lg_cmp_gt, Int64.lt_iff_toInt_lt]; omega)) ?_
            refine x_lload_n 102 3 (ab_dd tk_s_act 59 rfl) rfl rfl rfl ?_
            refine x_ldc2 105 (ab_dd tk_s_act 60 rfl) rfl C_s_255 ?_
            refine x_lcmp 106 (ab_dd tk_s_act 61 rfl) rfl ?_
            refine x_if_lt_t 140 (ab_dd tk_s_act 62 rfl) (by decide) (by first | (rw [lg_cmp_lt, Int64.lt_iff_toInt_lt]; omega) | (rw [lg_cmp_ge, Int64.le_iff_toInt_le]; omega) | (rw [lg_cmp_gt, Int64.lt_iff_toInt_lt]; omega)) ?_
            refine x_iconst 141 1 (ab_dd tk_s_act 82 rfl) rfl (by decide) (x_topn 1 rfl ?_)
            have e : aDw a u = 1 := by unfold aDw; rw [if_neg (by omega), if_neg (by omega), if_pos (by omega), if_neg (by omega)]
            exact x_iret (ab_dd tk_s_act 83 rfl) ⟨rI (by rw [e]), S, st, rfl, sEq.rf, hcx, kpX.rf, Nat.le_refl _, by omega, by rw [e, if_neg (by decide)]; exact ht⟩
          · refine x_lload_n 52 3 (ab_dd tk_s_act 29 rfl) rfl rfl rfl ?_
            refine x_l2i 53 (ab_dd tk_s_act 30 rfl) rfl (x_topn u el ?_)
            refine x_bipush 55 10 (ab_dd tk_s_act 31 rfl) rfl (by decide) (x_topn 10 rfl ?_)
            refine x_isub 56 (ab_dd tk_s_act 32 rfl) rfl (x_topn (u - 10) (pk_sub (by omega)) ?_)
            refine x_istore 58 [some (.ref 50), some (.ref x), some (.ref t), some (.long (lN u)), none, some (.int (nI (u - 10)))] 5 (ab_dd tk_s_act 33 rfl) rfl (by decide) rfl ?_
            refine x_aload_n 59 2 (ab_dd tk_s_act 34 rfl) rfl rfl rfl ?_
            refine x_aload_n 60 2 (ab_dd tk_s_act 35 rfl) rfl rfl rfl ?_
            refine t_getI 63 (ab_dd tk_s_act 36 rfl) rfl F_s_145 htk.1 htk.2.1 htk.2.2 rfl (x_topn (aW a) ht.2.1 ?_)
            refine x_iload 65 5 (ab_dd tk_s_act 37 rfl) rfl rfl ?_
            refine x_iconst 66 4 (ab_dd tk_s_act 38 rfl) rfl (by decide) (x_topn 4 rfl ?_)
            refine x_callS 69 M_s_withWarmth 1 3 [_, _, _] (ab_dd tk_s_act 39 rfl) rfl (by first | decide | omega) K_s_withWarmth T_s_withWarmth L_s_250 rfl (Nat.le_of_ble_eq_true rfl) (c_s_withWarmth (by exact kc) (by exact h50) (aW a) (u - 10) 4 (by omega) (by omega) (by omega)) (fun v1 w1 h1 => ?_)
            obtain ⟨rfl, rfl⟩ := h1
            refine t_putI 72 (ab_dd tk_s_act 40 rfl) rfl F_s_145 htk.1 htk.2.1 htk.2.2 rfl rfl rfl ?_
            refine x_iconst 73 0 (ab_dd tk_s_act 41 rfl) rfl (by decide) (x_topn 0 rfl ?_)
            have e : aDw a u = 0 := by unfold aDw; rw [if_neg (by omega), if_neg (by omega), if_pos (by omega), if_pos h48]
            have eo : aDo a u = up1 a (32 + (u - 10)) 4 := by unfold aDo; rw [if_neg (by omega), if_pos (by omega), show 32 + u - 10 = 32 + (u - 10) by omega]
            have hE1 : sEq [t] S (pI S t 1 (nI (mWi (aW a) (u - 10) 4))) := sEq.rf.pI (List.Mem.head _)
            exact x_iret (ab_dd tk_s_act 42 rfl) ⟨rI (by rw [e]), _, st, rfl, hE1.mono (fun y hy => by rw [List.mem_singleton.mp hy]; simp), hcx.eq hE1 (by simp only [List.mem_cons, List.not_mem_nil, or_false, not_or]; omega) (fun y hy => by rw [List.mem_singleton.mp hy]; exact hnt) (by simp only [List.mem_cons, List.not_mem_nil, or_false, not_or]; omega) (by simp only [List.mem_cons, List.not_mem_nil, or_false, not_or]; omega) (by simp only [List.mem_cons, List.not_mem_nil, or_false, not_or]; omega), kpX.rf.eq hE1 (by simp only [List.mem_cons, List.not_mem_nil, or_false, not_or]; omega), Nat.le_refl _, by omega, by rw [e, if_pos rfl, eo, rowT_rug ha.1 h48]; exact ⟨(gI_k (by decide)).trans ht.1, gI_s, (gI_k (by decide)).trans ht.2.2.1, (gI_k (by decide)).trans ht.2.2.2.1, (gI_k (by decide)).trans ht.2.2.2.2⟩⟩
        · skip
          by_cases hz_month : u ≤ 29
          · refine x_lload_n 1 3 (ab_dd tk_s_act 0 rfl) rfl rfl rfl ?_
            refine x_lconst 2 0 (ab_dd tk_s_act 1 rfl) rfl (by decide) ?_
            refine x_lcmp 3 (ab_dd tk_s_act 2 rfl) rfl ?_
            refine x_if_lt_f 6 (ab_dd tk_s_act 3 rfl) rfl 23 (by decide) (by first | (rw [lg_cmp_lt, Int64.lt_iff_toInt_lt]; omega) | (rw [lg_cmp_ge, Int64.le_iff_toInt_le]; omega) | (rw [lg_cmp_gt, Int64.lt_iff_toInt_lt]; omega)) ?_
            refine x_lload_n 7 3 (ab_dd tk_s_act 4 rfl) rfl rfl rfl ?_
            refine x_ldc2 10 (ab_dd tk_s_act 5 rfl) rfl C_s_240 ?_
            refine x_lcmp 11 (ab_dd tk_s_act 6 rfl) rfl ?_
            refine x_if_ge_t 23 (ab_dd tk_s_act 7 rfl) (by decide) (by first | (rw [lg_cmp_lt, Int64.lt_iff_toInt_lt]; omega) | (rw [lg_cmp_ge, Int64.le_iff_toInt_le]; omega) | (rw [lg_cmp_gt, Int64.lt_iff_toInt_lt]; omega)) ?_
            refine x_lload_n 24 3 (ab_dd tk_s_act 15 rfl) rfl rfl rfl ?_
            refine x_ldc2 27 (ab_dd tk_s_act 16 rfl) rfl C_s_246 ?_
            refine x_lcmp 28 (ab_dd tk_s_act 17 rfl) rfl ?_
            refine x_if_lt_f 31 (ab_dd tk_s_act 18 rfl) rfl 74 (by decide) (by first | (rw [lg_cmp_lt, Int64.lt_iff_toInt_lt]; omega) | (rw [lg_cmp_ge, Int64.le_iff_toInt_le]; omega) | (rw [lg_cmp_gt, Int64.lt_iff_toInt_lt]; omega)) ?_
            refine x_lload_n 32 3 (ab_dd tk_s_act 19 rfl) rfl rfl rfl ?_
            refine x_ldc2 35 (ab_dd tk_s_act 20 rfl) rfl C_s_248 ?_
            refine x_lcmp 36 (ab_dd tk_s_act 21 rfl) rfl ?_
            refine x_if_ge_t 74 (ab_dd tk_s_act 22 rfl) (by decide) (by first | (rw [lg_cmp_lt, Int64.lt_iff_toInt_lt]; omega) | (rw [lg_cmp_ge, Int64.le_iff_toInt_le]; omega) | (rw [lg_cmp_gt, Int64.lt_iff_toInt_lt]; omega)) ?_
            refine x_lload_n 75 3 (ab_dd tk_s_act 43 rfl) rfl rfl rfl ?_
            refine x_ldc2 78 (ab_dd tk_s_act 44 rfl) rfl C_s_248 ?_
            refine x_lcmp 79 (ab_dd tk_s_act 45 rfl) rfl ?_
            refine x_if_lt_f 82 (ab_dd tk_s_act 46 rfl) rfl 101 (by decide) (by first | (rw [lg_cmp_lt, Int64.lt_iff_toInt_lt]; omega) | (rw [lg_cmp_ge, Int64.le_iff_toInt_le]; omega) | (rw [lg_cmp_gt, Int64.lt_iff_toInt_lt]; omega)) ?_
            refine x_lload_n 83 3 (ab_dd tk_s_act 47 rfl) rfl rfl rfl ?_
            refine x_ldc2 86 (ab_dd tk_s_act 48 rfl) rfl C_s_253 ?_
            refine x_lcmp 87 (ab_dd tk_s_act 49 rfl) rfl ?_
            refine x_if_ge_f 90 (ab_dd tk_s_act 50 rfl) rfl 101 (by decide) (by first | (rw [lg_cmp_lt, Int64.lt_iff_toInt_lt]; omega) | (rw [lg_cmp_ge, Int64.le_iff_toInt_le]; omega) | (rw [lg_cmp_gt, Int64.lt_iff_toInt_lt]; omega)) ?_
            refine x_aload_n 91 2 (ab_dd tk_s_act 51 rfl) rfl rfl rfl ?_
            refine x_lload_n 92 3 (ab_dd tk_s_act 52 rfl) rfl rfl rfl ?_
            refine x_l2i 93 (ab_dd tk_s_act 53 rfl) rfl (x_topn u el ?_)
            refine x_bipush 95 20 (ab_dd tk_s_act 54 rfl) rfl (by decide) (x_topn 20 rfl ?_)
            refine x_isub 96 (ab_dd tk_s_act 55 rfl) rfl (x_topn (u - 20) (pk_sub (by omega)) ?_)
            refine t_putI 99 (ab_dd tk_s_act 56 rfl) rfl F_s_180 htk.1 htk.2.1 htk.2.2 rfl rfl rfl ?_
            refine x_iconst 100 0 (ab_dd tk_s_act 57 rfl) rfl (by decide) (x_topn 0 rfl ?_)
            have e : aDw a u = 0 := by unfold aDw; rw [if_neg (by omega), if_neg (by omega), if_neg (by omega), if_pos (by omega)]
            have eo : aDo a u = up1 a 40 (nI (u - 20)) := by unfold aDo; rw [if_neg (by omega), if_neg (by omega), if_pos (by omega)]
            have hE1 : sEq [t] S (pI S t 3 (nI (u - 20))) := sEq.rf.pI (List.Mem.head _)
            exact x_iret (ab_dd tk_s_act 58 rfl) ⟨rI (by rw [e]), _, st, rfl, hE1.mono (fun y hy => by rw [List.mem_singleton.mp hy]; simp), hcx.eq hE1 (by simp only [List.mem_cons, List.not_mem_nil, or_false, not_or]; omega) (fun y hy => by rw [List.mem_singleton.mp hy]; exact hnt) (by simp only [List.mem_cons, List.not_mem_nil, or_false, not_or]; omega) (by simp only [List.mem_cons, List.not_mem_nil, or_false, not_or]; omega) (by simp only [List.mem_cons, List.not_mem_nil, or_false, not_or]; omega), kpX.rf.eq hE1 (by simp only [List.mem_cons, List.not_mem_nil, or_false, not_or]; omega), Nat.le_refl _, by omega, by rw [e, if_pos rfl, eo, rowT_mon ha.1 (show u - 20 < 10 by omega)]; exact ⟨(gI_k (by decide)).trans ht.1, (gI_k (by decide)).trans ht.2.1, (gI_k (by decide)).trans ht.2.2.1, gI_s, (gI_k (by decide)).trans ht.2.2.2.2⟩⟩
          · skip
            by_cases hz_gap2 : u < 100
            · refine x_lload_n 1 3 (ab_dd tk_s_act 0 rfl) rfl rfl rfl ?_
              refine x_lconst 2 0 (ab_dd tk_s_act 1 rfl) rfl (by decide) ?_
              refine x_lcmp 3 (ab_dd tk_s_act 2 rfl) rfl ?_
              refine x_if_lt_f 6 (ab_dd tk_s_act 3 rfl) rfl 23 (by decide) (by first | (rw [lg_cmp_lt, Int64.lt_iff_toInt_lt]; omega) | (rw [lg_cmp_ge, Int64.le_iff_toInt_le]; omega) | (rw [lg_cmp_gt, Int64.lt_iff_toInt_lt]; omega)) ?_
              refine x_lload_n 7 3 (ab_dd tk_s_act 4 rfl) rfl rfl rfl ?_
              refine x_ldc2 10 (ab_dd tk_s_act 5 rfl) rfl C_s_240 ?_
              refine x_lcmp 11 (ab_dd tk_s_act 6 rfl) rfl ?_
              refine x_if_ge_t 23 (ab_dd tk_s_act 7 rfl) (by decide) (by first | (rw [lg_cmp_lt, Int64.lt_iff_toInt_lt]; omega) | (rw [lg_cmp_ge, Int64.le_iff_toInt_le]; omega) | (rw [lg_cmp_gt, Int64.lt_iff_toInt_lt]; omega)) ?_
              refine x_lload_n 24 3 (ab_dd tk_s_act 15 rfl) rfl rfl rfl ?_
              refine x_ldc2 27 (ab_dd tk_s_act 16 rfl) rfl C_s_246 ?_
              refine x_lcmp 28 (ab_dd tk_s_act 17 rfl) rfl ?_
              refine x_if_lt_f 31 (ab_dd tk_s_act 18 rfl) rfl 74 (by decide) (by first | (rw [lg_cmp_lt, Int64.lt_iff_toInt_lt]; omega) | (rw [lg_cmp_ge, Int64.le_iff_toInt_le]; omega) | (rw [lg_cmp_gt, Int64.lt_iff_toInt_lt]; omega)) ?_
              refine x_lload_n 32 3 (ab_dd tk_s_act 19 rfl) rfl rfl rfl ?_
              refine x_ldc2 35 (ab_dd tk_s_act 20 rfl) rfl C_s_248 ?_
              refine x_lcmp 36 (ab_dd tk_s_act 21 rfl) rfl ?_
              refine x_if_ge_t 74 (ab_dd tk_s_act 22 rfl) (by decide) (by first | (rw [lg_cmp_lt, Int64.lt_iff_toInt_lt]; omega) | (rw [lg_cmp_ge, Int64.le_iff_toInt_le]; omega) | (rw [lg_cmp_gt, Int64.lt_iff_toInt_lt]; omega)) ?_
              refine x_lload_n 75 3 (ab_dd tk_s_act 43 rfl) rfl rfl rfl ?_
              refine x_ldc2 78 (ab_dd tk_s_act 44 rfl) rfl C_s_248 ?_
              refine x_lcmp 79 (ab_dd tk_s_act 45 rfl) rfl ?_
              refine x_if_lt_f 82 (ab_dd tk_s_act 46 rfl) rfl 101 (by decide) (by first | (rw [lg_cmp_lt, Int64.lt_iff_toInt_lt]; omega) | (rw [lg_cmp_ge, Int64.le_iff_toInt_le]; omega) | (rw [lg_cmp_gt, Int64.lt_iff_toInt_lt]; omega)) ?_
              refine x_lload_n 83 3 (ab_dd tk_s_act 47 rfl) rfl rfl rfl ?_
              refine x_ldc2 86 (ab_dd tk_s_act 48 rfl) rfl C_s_253 ?_
              refine x_lcmp 87 (ab_dd tk_s_act 49 rfl) rfl ?_
              refine x_if_ge_t 101 (ab_dd tk_s_act 50 rfl) (by decide) (by first | (rw [lg_cmp_lt, Int64.lt_iff_toInt_lt]; omega) | (rw [lg_cmp_ge, Int64.le_iff_toInt_le]; omega) | (rw [lg_cmp_gt, Int64.lt_iff_toInt_lt]; omega)) ?_
              refine x_lload_n 102 3 (ab_dd tk_s_act 59 rfl) rfl rfl rfl ?_
              refine x_ldc2 105 (ab_dd tk_s_act 60 rfl) rfl C_s_255 ?_
              refine x_lcmp 106 (ab_dd tk_s_act 61 rfl) rfl ?_
              refine x_if_lt_t 140 (ab_dd tk_s_act 62 rfl) (by decide) (by first | (rw [lg_cmp_lt, Int64.lt_iff_toInt_lt]; omega) | (rw [lg_cmp_ge, Int64.le_iff_toInt_le]; omega) | (rw [lg_cmp_gt, Int64.lt_iff_toInt_lt]; omega)) ?_
              refine x_iconst 141 1 (ab_dd tk_s_act 82 rfl) rfl (by decide) (x_topn 1 rfl ?_)
              have e : aDw a u = 1 := by unfold aDw; rw [if_neg (by omega), if_neg (by omega), if_neg (by omega), if_neg (by omega), if_pos (by omega)]
              exact x_iret (ab_dd tk_s_act 83 rfl) ⟨rI (by rw [e]), S, st, rfl, sEq.rf, hcx, kpX.rf, Nat.le_refl _, by omega, by rw [e, if_neg (by decide)]; exact ht⟩
            · skip
              refine x_lload_n 1 3 (ab_dd tk_s_act 0 rfl) rfl rfl rfl ?_
              refine x_lconst 2 0 (ab_dd tk_s_act 1 rfl) rfl (by decide) ?_
              refine x_lcmp 3 (ab_dd tk_s_act 2 rfl) rfl ?_
              refine x_if_lt_f 6 (ab_dd tk_s_act 3 rfl) rfl 23 (by decide) (by first | (rw [lg_cmp_lt, Int64.lt_iff_toInt_lt]; omega) | (rw [lg_cmp_ge, Int64.le_iff_toInt_le]; omega) | (rw [lg_cmp_gt, Int64.lt_iff_toInt_lt]; omega)) ?_
              refine x_lload_n 7 3 (ab_dd tk_s_act 4 rfl) rfl rfl rfl ?_
              refine x_ldc2 10 (ab_dd tk_s_act 5 rfl) rfl C_s_240 ?_
              refine x_lcmp 11 (ab_dd tk_s_act 6 rfl) rfl ?_
              refine x_if_ge_t 23 (ab_dd tk_s_act 7 rfl) (by decide) (by first | (rw [lg_cmp_lt, Int64.lt_iff_toInt_lt]; omega) | (rw [lg_cmp_ge, Int64.le_iff_toInt_le]; omega) | (rw [lg_cmp_gt, Int64.lt_iff_toInt_lt]; omega)) ?_
              refine x_lload_n 24 3 (ab_dd tk_s_act 15 rfl) rfl rfl rfl ?_
              refine x_ldc2 27 (ab_dd tk_s_act 16 rfl) rfl C_s_246 ?_
              refine x_lcmp 28 (ab_dd tk_s_act 17 rfl) rfl ?_
              refine x_if_lt_f 31 (ab_dd tk_s_act 18 rfl) rfl 74 (by decide) (by first | (rw [lg_cmp_lt, Int64.lt_iff_toInt_lt]; omega) | (rw [lg_cmp_ge, Int64.le_iff_toInt_le]; omega) | (rw [lg_cmp_gt, Int64.lt_iff_toInt_lt]; omega)) ?_
              refine x_lload_n 32 3 (ab_dd tk_s_act 19 rfl) rfl rfl rfl ?_
              refine x_ldc2 35 (ab_dd tk_s_act 20 rfl) rfl C_s_248 ?_
              refine x_lcmp 36 (ab_dd tk_s_act 21 rfl) rfl ?_
              refine x_if_ge_t 74 (ab_dd tk_s_act 22 rfl) (by decide) (by first | (rw [lg_cmp_lt, Int64.lt_iff_toInt_lt]; omega) | (rw [lg_cmp_ge, Int64.le_iff_toInt_le]; omega) | (rw [lg_cmp_gt, Int64.lt_iff_toInt_lt]; omega)) ?_
              refine x_lload_n 75 3 (ab_dd tk_s_act 43 rfl) rfl rfl rfl ?_
              refine x_ldc2 78 (ab_dd tk_s_act 44 rfl) rfl C_s_248 ?_
              refine x_lcmp 79 (ab_dd tk_s_act 45 rfl) rfl ?_
              refine x_if_lt_f 82 (ab_dd tk_s_act 46 rfl) rfl 101 (by decide) (by first | (rw [lg_cmp_lt, Int64.lt_iff_toInt_lt]; omega) | (rw [lg_cmp_ge, Int64.le_iff_toInt_le]; omega) | (rw [lg_cmp_gt, Int64.lt_iff_toInt_lt]; omega)) ?_
              refine x_lload_n 83 3 (ab_dd tk_s_act 47 rfl) rfl rfl rfl ?_
              refine x_ldc2 86 (ab_dd tk_s_act 48 rfl) rfl C_s_253 ?_
              refine x_lcmp 87 (ab_dd tk_s_act 49 rfl) rfl ?_
              refine x_if_ge_t 101 (ab_dd tk_s_act 50 rfl) (by decide) (by first | (rw [lg_cmp_lt, Int64.lt_iff_toInt_lt]; omega) | (rw [lg_cmp_ge, Int64.le_iff_toInt_le]; omega) | (rw [lg_cmp_gt, Int64.lt_iff_toInt_lt]; omega)) ?_
              refine x_lload_n 102 3 (ab_dd tk_s_act 59 rfl) rfl rfl rfl ?_
              refine x_ldc2 105 (ab_dd tk_s_act 60 rfl) rfl C_s_255 ?_
              refine x_lcmp 106 (ab_dd tk_s_act 61 rfl) rfl ?_
              refine x_if_lt_f 109 (ab_dd tk_s_act 62 rfl) rfl 140 (by decide) (by first | (rw [lg_cmp_lt, Int64.lt_iff_toInt_lt]; omega) | (rw [lg_cmp_ge, Int64.le_iff_toInt_le]; omega) | (rw [lg_cmp_gt, Int64.lt_iff_toInt_lt]; omega)) ?_
              refine x_lload_n 110 3 (ab_dd tk_s_act 63 rfl) rfl rfl rfl ?_
              refine x_ldc2 113 (ab_dd tk_s_act 64 rfl) rfl C_s_257 ?_
              refine x_lcmp 114 (ab_dd tk_s_act 65 rfl) rfl ?_
              refine x_if_gt_f 117 (ab_dd tk_s_act 66 rfl) rfl 140 (by decide) (by first | (rw [lg_cmp_lt, Int64.lt_iff_toInt_lt]; omega) | (rw [lg_cmp_ge, Int64.le_iff_toInt_le]; omega) | (rw [lg_cmp_gt, Int64.lt_iff_toInt_lt]; omega)) ?_
              refine x_lload_n 118 3 (ab_dd tk_s_act 67 rfl) rfl rfl rfl ?_
              refine x_l2i 119 (ab_dd tk_s_act 68 rfl) rfl (x_topn u el ?_)
              refine x_bipush 121 100 (ab_dd tk_s_act 69 rfl) rfl (by decide) (x_topn 100 rfl ?_)
              refine x_isub 122 (ab_dd tk_s_act 70 rfl) rfl (x_topn (u - 100) (pk_sub (by omega)) ?_)
              refine x_istore 124 [some (.ref 50), some (.ref x), some (.ref t), some (.long (lN u)), none, some (.int (nI (u - 100)))] 5 (ab_dd tk_s_act 71 rfl) rfl (by decide) rfl ?_
              refine x_aload_n 125 0 (ab_dd tk_s_act 72 rfl) rfl rfl rfl ?_
              refine x_aload_n 126 2 (ab_dd tk_s_act 73 rfl) rfl rfl rfl ?_
              refine x_iload 128 5 (ab_dd tk_s_act 74 rfl) rfl rfl ?_
              refine x_bipush 130 10 (ab_dd tk_s_act 75 rfl) rfl (by decide) (x_topn 10 rfl ?_)
              refine x_idiv 131 (ab_dd tk_s_act 76 rfl) rfl (by decide) (x_topn ((u - 100) / 10) (pk_div (by omega) (by omega) (by omega)) ?_)
              refine x_iload 133 5 (ab_dd tk_s_act 77 rfl) rfl rfl ?_
              refine x_bipush 135 10 (ab_dd tk_s_act 78 rfl) rfl (by decide) (x_topn 10 rfl ?_)
              refine x_irem 136 (ab_dd tk_s_act 79 rfl) rfl (by decide) (x_topn ((u - 100) % 10) (pk_rem (by omega) (by omega) (by omega)) ?_)
              refine t_callV 139 M_s_actGive 1 3 [_, _, _] (ab_dd tk_s_act 80 rfl) rfl (by first | decide | omega) K_s_actGive V_s_actGive.1 V_s_actGive.2 L_s_259 rfl (Nat.le_of_ble_eq_true rfl) (by decide) (Nat.lt_of_lt_of_le (by decide) hx.1) (hx.2.1 0 (by decide)) rfl (c_s_actGive hx him hc hcaA ha.1 htt ht ((u - 100) / 10) ((u - 100) % 10) (by omega) (by omega)) (fun v1 w1 h1 => ?_)
              rcases h1 with ⟨g1, g2, g3, rfl, S1, rfl, hE1, ht1⟩ | ⟨g1, rfl, rfl⟩
              · skip
                have e : aDw a u = 0 := by unfold aDw; rw [if_neg (by omega), if_neg (by omega), if_neg (by omega), if_neg (by omega), if_neg (by omega), if_pos (by omega), if_pos (by omega)]
                have eo : aDo a u = mGiv a ((u - 100) / 10) ((u - 100) % 10) := by unfold aDo; rw [if_neg (by omega), if_neg (by omega), if_neg (by omega), show (u - 100) % 10 = u % 10 by omega]
                exact x_iret (ab_dd tk_s_act 81 rfl) ⟨rI (by rw [e]), _, st, rfl, hE1.mono (fun y hy => by rw [List.mem_singleton.mp hy]; simp), hcx.eq hE1 (by simp only [List.mem_cons, List.not_mem_nil, or_false, not_or]; omega) (fun y hy => by rw [List.mem_singleton.mp hy]; exact hnt) (by simp only [List.mem_cons, List.not_mem_nil, or_false, not_or]; omega) (by simp only [List.mem_cons, List.not_mem_nil, or_false, not_or]; omega) (by simp only [List.mem_cons, List.not_mem_nil, or_false, not_or]; omega), kpX.rf.eq hE1 (by simp only [List.mem_cons, List.not_mem_nil, or_false, not_or]; omega), Nat.le_refl _, by omega, by rw [e, if_pos rfl, eo]; exact ht1⟩
              · skip
                have e : aDw a u = 1 := by unfold aDw; rw [if_neg (by omega), if_neg (by omega), if_neg (by omega), if_neg (by omega), if_neg (by omega), if_pos (by omega), if_neg (by omega)]
                exact x_iret (ab_dd tk_s_act 81 rfl) ⟨rI (by rw [e]), S, st, rfl, sEq.rf, hcx, kpX.rf, Nat.le_refl _, by omega, by rw [e, if_neg (by decide)]; exact ht⟩
  · have hcl : v0.toInt < 0 ∨ 199 < v0.toInt := by
      have e0 : ((0 : Int64).toInt) = 0 := by decide
      have e199 : ((199 : Int64).toInt) = 199 := by decide
      rw [Int64.le_iff_toInt_le, Int64.le_iff_toInt_le] at hin
      omega
    have e0 : ((0 : Int64).toInt) = 0 := by decide
    have e4 : ((4 : Int64).toInt) = 4 := by decide
    have e10 : ((10 : Int64).toInt) = 10 := by decide
    have e20 : ((20 : Int64).toInt) = 20 := by decide
    have e30 : ((30 : Int64).toInt) = 30 := by decide
    have e100 : ((100 : Int64).toInt) = 100 := by decide
    have e199 : ((199 : Int64).toInt) = 199 := by decide
    rcases hcl with hlo | hhi
    · refine x_lload_n 1 3 (ab_dd tk_s_act 0 rfl) rfl rfl rfl ?_
      refine x_lconst 2 0 (ab_dd tk_s_act 1 rfl) rfl (by decide) ?_
      refine x_lcmp 3 (ab_dd tk_s_act 2 rfl) rfl ?_
      refine x_if_lt_t 23 (ab_dd tk_s_act 3 rfl) (by decide) (by first | (rw [lg_cmp_lt, Int64.lt_iff_toInt_lt]; omega) | (rw [lg_cmp_ge, Int64.le_iff_toInt_le]; omega) | (rw [lg_cmp_gt, Int64.lt_iff_toInt_lt]; omega)) ?_
      refine x_lload_n 24 3 (ab_dd tk_s_act 15 rfl) rfl rfl rfl ?_
      refine x_ldc2 27 (ab_dd tk_s_act 16 rfl) rfl C_s_246 ?_
      refine x_lcmp 28 (ab_dd tk_s_act 17 rfl) rfl ?_
      refine x_if_lt_t 74 (ab_dd tk_s_act 18 rfl) (by decide) (by first | (rw [lg_cmp_lt, Int64.lt_iff_toInt_lt]; omega) | (rw [lg_cmp_ge, Int64.le_iff_toInt_le]; omega) | (rw [lg_cmp_gt, Int64.lt_iff_toInt_lt]; omega)) ?_
      refine x_lload_n 75 3 (ab_dd tk_s_act 43 rfl) rfl rfl rfl ?_
      refine x_ldc2 78 (ab_dd tk_s_act 44 rfl) rfl C_s_248 ?_
      refine x_lcmp 79 (ab_dd tk_s_act 45 rfl) rfl ?_
      refine x_if_lt_t 101 (ab_dd tk_s_act 46 rfl) (by decide) (by first | (rw [lg_cmp_lt, Int64.lt_iff_toInt_lt]; omega) | (rw [lg_cmp_ge, Int64.le_iff_toInt_le]; omega) | (rw [lg_cmp_gt, Int64.lt_iff_toInt_lt]; omega)) ?_
      refine x_lload_n 102 3 (ab_dd tk_s_act 59 rfl) rfl rfl rfl ?_
      refine x_ldc2 105 (ab_dd tk_s_act 60 rfl) rfl C_s_255 ?_
      refine x_lcmp 106 (ab_dd tk_s_act 61 rfl) rfl ?_
      refine x_if_lt_t 140 (ab_dd tk_s_act 62 rfl) (by decide) (by first | (rw [lg_cmp_lt, Int64.lt_iff_toInt_lt]; omega) | (rw [lg_cmp_ge, Int64.le_iff_toInt_le]; omega) | (rw [lg_cmp_gt, Int64.lt_iff_toInt_lt]; omega)) ?_
      exact no hin
    · refine x_lload_n 1 3 (ab_dd tk_s_act 0 rfl) rfl rfl rfl ?_
      refine x_lconst 2 0 (ab_dd tk_s_act 1 rfl) rfl (by decide) ?_
      refine x_lcmp 3 (ab_dd tk_s_act 2 rfl) rfl ?_
      refine x_if_lt_f 6 (ab_dd tk_s_act 3 rfl) rfl 23 (by decide) (by first | (rw [lg_cmp_lt, Int64.lt_iff_toInt_lt]; omega) | (rw [lg_cmp_ge, Int64.le_iff_toInt_le]; omega) | (rw [lg_cmp_gt, Int64.lt_iff_toInt_lt]; omega)) ?_
      refine x_lload_n 7 3 (ab_dd tk_s_act 4 rfl) rfl rfl rfl ?_
      refine x_ldc2 10 (ab_dd tk_s_act 5 rfl) rfl C_s_240 ?_
      refine x_lcmp 11 (ab_dd tk_s_act 6 rfl) rfl ?_
      refine x_if_ge_t 23 (ab_dd tk_s_act 7 rfl) (by decide) (by first | (rw [lg_cmp_lt, Int64.lt_iff_toInt_lt]; omega) | (rw [lg_cmp_ge, Int64.le_iff_toInt_le]; omega) | (rw [lg_cmp_gt, Int64.lt_iff_toInt_lt]; omega)) ?_
      refine x_lload_n 24 3 (ab_dd tk_s_act 15 rfl) rfl rfl rfl ?_
      refine x_ldc2 27 (ab_dd tk_s_act 16 rfl) rfl C_s_246 ?_
      refine x_lcmp 28 (ab_dd tk_s_act 17 rfl) rfl ?_
      refine x_if_lt_f 31 (ab_dd tk_s_act 18 rfl) rfl 74 (by decide) (by first | (rw [lg_cmp_lt, Int64.lt_iff_toInt_lt]; omega) | (rw [lg_cmp_ge, Int64.le_iff_toInt_le]; omega) | (rw [lg_cmp_gt, Int64.lt_iff_toInt_lt]; omega)) ?_
      refine x_lload_n 32 3 (ab_dd tk_s_act 19 rfl) rfl rfl rfl ?_
      refine x_ldc2 35 (ab_dd tk_s_act 20 rfl) rfl C_s_248 ?_
      refine x_lcmp 36 (ab_dd tk_s_act 21 rfl) rfl ?_
      refine x_if_ge_t 74 (ab_dd tk_s_act 22 rfl) (by decide) (by first | (rw [lg_cmp_lt, Int64.lt_iff_toInt_lt]; omega) | (rw [lg_cmp_ge, Int64.le_iff_toInt_le]; omega) | (rw [lg_cmp_gt, Int64.lt_iff_toInt_lt]; omega)) ?_
      refine x_lload_n 75 3 (ab_dd tk_s_act 43 rfl) rfl rfl rfl ?_
      refine x_ldc2 78 (ab_dd tk_s_act 44 rfl) rfl C_s_248 ?_
      refine x_lcmp 79 (ab_dd tk_s_act 45 rfl) rfl ?_
      refine x_if_lt_f 82 (ab_dd tk_s_act 46 rfl) rfl 101 (by decide) (by first | (rw [lg_cmp_lt, Int64.lt_iff_toInt_lt]; omega) | (rw [lg_cmp_ge, Int64.le_iff_toInt_le]; omega) | (rw [lg_cmp_gt, Int64.lt_iff_toInt_lt]; omega)) ?_
      refine x_lload_n 83 3 (ab_dd tk_s_act 47 rfl) rfl rfl rfl ?_
      refine x_ldc2 86 (ab_dd tk_s_act 48 rfl) rfl C_s_253 ?_
      refine x_lcmp 87 (ab_dd tk_s_act 49 rfl) rfl ?_
      refine x_if_ge_t 101 (ab_dd tk_s_act 50 rfl) (by decide) (by first | (rw [lg_cmp_lt, Int64.lt_iff_toInt_lt]; omega) | (rw [lg_cmp_ge, Int64.le_iff_toInt_le]; omega) | (rw [lg_cmp_gt, Int64.lt_iff_toInt_lt]; omega)) ?_
      refine x_lload_n 102 3 (ab_dd tk_s_act 59 rfl) rfl rfl rfl ?_
      refine x_ldc2 105 (ab_dd tk_s_act 60 rfl) rfl C_s_255 ?_
      refine x_lcmp 106 (ab_dd tk_s_act 61 rfl) rfl ?_
      refine x_if_lt_f 109 (ab_dd tk_s_act 62 rfl) rfl 140 (by decide) (by first | (rw [lg_cmp_lt, Int64.lt_iff_toInt_lt]; omega) | (rw [lg_cmp_ge, Int64.le_iff_toInt_le]; omega) | (rw [lg_cmp_gt, Int64.lt_iff_toInt_lt]; omega)) ?_
      refine x_lload_n 110 3 (ab_dd tk_s_act 63 rfl) rfl rfl rfl ?_
      refine x_ldc2 113 (ab_dd tk_s_act 64 rfl) rfl C_s_257 ?_
      refine x_lcmp 114 (ab_dd tk_s_act 65 rfl) rfl ?_
      refine x_if_gt_t 140 (ab_dd tk_s_act 66 rfl) (by decide) (by first | (rw [lg_cmp_lt, Int64.lt_iff_toInt_lt]; omega) | (rw [lg_cmp_ge, Int64.le_iff_toInt_le]; omega) | (rw [lg_cmp_gt, Int64.lt_iff_toInt_lt]; omega)) ?_
      exact no hin
