theorem aY_lt (a : Nat → Int32) (mo : Int32) (c q : Nat) : aY a mo c q < 3 := by
  unfold aY spY
  split
  · decide
  · split
    · decide
    · split <;> decide
theorem aY_0 {a : Nat → Int32} {mo : Int32} {c q : Nat} (h : aY a mo c q = 0) : q < aR a ∨ q = 0 := by
  unfold aY spY at h
  split at h
  · exact Or.inr ‹_›
  · split at h
    · cases h
    · left; omega
/-! ===== a stand of the class, out of the reference's row ===== -/
def aW (a : Nat → Int32) : Nat := aE a % 625
def aQ (a : Nat → Int32) : Nat := uQ (aR a) (aE a / 625)
def rowT (a : Nat → Int32) : sT := (seaC a, aW a, aQ a, cN (a 40), a 41)
theorem aE_cg {a b : Nat → Int32} (h1 : b 1 = a 1) (h : ∀ i, 32 ≤ i → i < 40 → b i = a i) (hR : aR a ≤ 4) : aE b = aE a := by
  unfold aE
  rw [show aR b = aR a by unfold aR; rw [h1], mEn_co _ hR, mEn_co _ hR]
  refine mCo_cg (fun r hr => ?_) (fun r hr => ?_)
  · show (if r < aR a then cN (b (36 + r)) else 0) = (if r < aR a then cN (a (36 + r)) else 0)
    rw [h _ (by omega) (by omega)]
  · show (if r < aR a then cN (b (32 + r)) else 0) = (if r < aR a then cN (a (32 + r)) else 0)
    rw [h _ (by omega) (by omega)]
theorem mOk_w {n c : Nat} (hn : n ≤ 4) (h : mOk n c) : c % 625 < 5 ^ n := by
  rw [dig4]
  have h0 := mWa_lt c 0
  have h1 := mWa_lt c 1
  have h2 := mWa_lt c 2
  have h3 := mWa_lt c 3
  have hz : ∀ r, r < 4 → n ≤ r → mWa c r = 0 := fun r hr hnr => (h.2.2.1 r hr hnr).2
  have hk : n = 0 ∨ n = 1 ∨ n = 2 ∨ n = 3 ∨ n = 4 := by omega
  rcases hk with rfl | rfl | rfl | rfl | rfl
  · rw [hz 0 (by decide) (by decide), hz 1 (by decide) (by decide), hz 2 (by decide) (by decide), hz 3 (by decide) (by decide)]; decide
  · rw [hz 1 (by decide) (by decide), hz 2 (by decide) (by decide), hz 3 (by decide) (by decide)]; show _ < 5; omega
  · rw [hz 2 (by decide) (by decide), hz 3 (by decide) (by decide)]; show _ < 25; omega
  · rw [hz 3 (by decide) (by decide)]; show _ < 125; omega
  · show _ < 625; omega
theorem mOk_v2 {n c : Nat} (hn : n ≤ 4) (h : mOk n c) : vU n (c / 625) = true := by
  unfold vU
  rw [Bool.and_eq_true, List.all_eq_true, List.all_eq_true]
  refine ⟨fun s hs => ?_, fun r hr => ?_⟩
  · have hs := List.mem_range.mp hs
    rw [List.any_eq_true]
    exact ⟨mSit n c s, List.mem_range.mpr (h.2.1 s hs), beq_iff_eq.mpr (mSit_se (h.2.1 s hs))⟩
  · have hr := List.mem_range.mp hr
    rw [Bool.or_eq_true, decide_eq_true_iff, beq_iff_eq]
    by_cases z : r < n
    · exact Or.inl z
    · exact Or.inr (h.2.2.1 r hr (by omega)).1
theorem mOk_cSt {n c : Nat} (hn : n ≤ 4) (h : mOk n c) : uQ n (c / 625) < kFc n ∧ c % 625 < 5 ^ n ∧ c = cSt n (c % 625) (uQ n (c / 625)) := by
  have h1 := h.1
  have h2 := uQ_ok hn (show c / 625 < 256 by omega) (mOk_v2 hn h)
  refine ⟨h2.1, mOk_w hn h, ?_⟩
  unfold cSt
  rw [h2.2]
  omega
theorem rowT_in {a : Nat → Int32} (h : aOk a) : aQ a < kFc (aR a) ∧ aW a < 5 ^ aR a ∧ aE a = cSt (aR a) (aW a) (aQ a) := mOk_cSt h.R.2 h.E
theorem aWQ {a : Nat → Int32} {w q : Nat} (hR : aR a ≤ 4) (hw : w < 5 ^ aR a) (hq : q < kFc (aR a)) (h : aE a = cSt (aR a) w q) : aW a = w ∧ aQ a = q := by
  have h6 := p5_6 hR
  unfold aW aQ
  rw [h, cSt_m (by omega), cSt_d (by omega)]
  exact ⟨rfl, (qB1_ok hR hq).2.1⟩
theorem cB_sw0 {a : Nat → Int32} {w q d : Nat} (hR : aR a ≤ 4) (hq : q < kFc (aR a)) (hw : w < 5 ^ aR a) (hd : d < aR a ∨ d = 0) : aS a (a 40) (cSt (aR a) w q) d = cSt (aR a) (cB a w (qCh q d)) (qCh q d) ∧ qCh q d < kFc (aR a) := by
  rcases hd with hd | rfl
  · exact ⟨cB_sw hR hq hw hd, ((qB1_ok hR hq).2.2.2.2.2.1 d hd).1⟩
  · have e := (qB1_ok hR hq).2.2.2.2.2.2
    rw [e]
    exact ⟨cB_st hR hq hw, hq⟩
theorem rowT_go {a : Nat → Int32} (h : aOk a) {d : Nat} (hd : d < aR a ∨ d = 0) : rowT (aGo a d) = (seaC a, cB a (aW a) (qCh (aQ a) d), qCh (aQ a) d, cN (a 40), a 41 + 1) := by
  obtain ⟨hq, hw, hE⟩ := rowT_in h
  have hR := h.R.2
  obtain ⟨-, g2, g3⟩ := aGo_ok h hd
  obtain ⟨k1, k2⟩ := cB_sw0 hR hq hw hd
  rw [hE, k1] at g3
  have hcb := cB_lt hR k2 hw
  obtain ⟨e1, e2⟩ := aWQ (a := aGo a d) (w := cB a (aW a) (qCh (aQ a) d)) (q := qCh (aQ a) d) (by rw [g2]; exact hR) (by rw [g2]; exact hcb) (by rw [g2]; exact k2) (by rw [g2]; exact g3)
  unfold rowT
  rw [e1, e2, aGo_o h (i := 40) (by omega)]
  have e3 : seaC (aGo a d) = seaC a := c4_cg (fun r hr => by rw [aGo_o h (by omega)])
  rw [e3]
  rfl
/-- a climate, whatever it supposes -/
def clX (S : ab_S) (im : Nat → Prop) (x c : Nat) (a : Nat → Int32) (bh nb st : Nat) : Prop := ∃ b, aOk b ∧ sta a b ∧ clI S im x c b bh nb st
theorem clX.sta {S : ab_S} {im : Nat → Prop} {x c bh nb st : Nat} {a b : Nat → Int32} (h : clX S im x c a bh nb st) (hs : sta a b) : clX S im x c b bh nb st := by
  obtain ⟨d, h1, h2, h3⟩ := h
  exact ⟨d, h1, hs.sy.tr h2, h3⟩
theorem clX.eq {S S' : ab_S} {im : Nat → Prop} {x c bh nb st : Nat} {b : Nat → Int32} {l : List Nat} (h : clX S im x c b bh nb st) (hE : sEq l S S') (hx : x ∉ l) (hl : ∀ y ∈ l, ¬ im y) (h1 : bh ∉ l) (h2 : x + 5 ∉ l) (h3 : x + 6 ∉ l) : clX S' im x c b bh nb st := by
  obtain ⟨d, g1, g2, g3⟩ := h
  exact ⟨d, g1, g2, g3.eq hE hx hl h1 h2 h3⟩
theorem sta.go {a : Nat → Int32} (h : aOk a) {d : Nat} : sta a (aGo a d) := fun i hi => aGo_o h (by omega)
theorem aGood.sta {a b : Nat → Int32} (h : aGood a) (hb : aOk b) (hs : sta a b) : aGood b := ⟨hb, h.2.sta hs⟩
theorem x_55 {S : ab_S} (hx : xSh S) {t : Nat} (h : t = 55 ∨ t = 56) : sdK S t := by
  have h1 := hx.1
  rcases h with rfl | rfl
  · exact ⟨by decide, by omega, hx.2.1 5 (by decide)⟩
  · exact ⟨by decide, by omega, hx.2.1 6 (by decide)⟩
def tb_s_actStop : List (Nat × Instr × Nat) := [(0, .aload_n 1, 1), (1, .aload_n 2, 1), (2, .getfield 134, 3), (5, .aload_n 2, 1), (6, .getfield 180, 3), (9, .invokevirtual 183, 3), (12, .aload_n 1, 1), (13, .iload_n 3, 1), (14, .aload_n 2, 1), (15, .getfield 145, 3), (18, .aload_n 2, 1), (19, .getfield 151, 3), (22, .invokevirtual 167, 3), (25, .istore 4, 2), (27, .iload 4, 2), (29, .ifCond .ne 45, 3), (32, .aload_n 2, 1), (33, .aload_n 0, 1), (34, .getfield 68, 3), (37, .aload_n 2, 1), (38, .getfield 151, 3), (41, .iload_n 3, 1), (42, .invokevirtual 171, 3), (45, .putfield 151, 3), (48, .aload_n 2, 1), (49, .aload_n 1, 1), (50, .aload_n 2, 1), (51, .getfield 145, 3), (54, .aload_n 2, 1), (55, .getfield 151, 3), (58, .invokevirtual 174, 3), (61, .putfield 145, 3), (64, .aload_n 2, 1), (65, .dup, 1), (66, .getfield 263, 3), (69, .iconst 1, 1), (70, .iadd, 1), (71, .putfield 263, 3), (74, .iload 4, 2), (76, .ireturn, 1)]
theorem tk_s_actStop : ∀ q ∈ tb_s_actStop, decode M_s_actStop.2.1 q.1 = .ok q.2 := by decide +kernel
theorem c_s_actStop {G : ab_G} {S : ab_S} (hx : xSh S) (hse : seOk S) (kc : kSh S.1) {im : Nat → Prop} (him : imO im) {x c bh nb st : Nat} {a : Nat → Int32} (hX : x = 84 ∨ x = 94) (hcx : clX S im x c a bh nb st) (ha : aGood a) (hst : st + 1 < 2 ^ 20) {t : Nat} (htt : t = 55 ∨ t = 56) (ht : sdE S t (rowT a)) (d : Nat) (hd : d < 4) : ab_C G 4 M_s_actStop [.ref 50, .ref x, .ref t, .int (nI d)] (sw S) (fun v w' => v = some (.int (nI (aY a (a 40) (aE a) d))) ∧ ∃ S' st', w' = sw S' ∧ sEq [x, x + 5, x + 6, x + 7, x + 8, x + 9, bh, t] S S' ∧ clX S' im x c a bh nb st' ∧ st ≤ st' ∧ st' ≤ st + 1 ∧ sdE S' t (rowT (if aY a (a 40) (aE a) d = 0 then aGo a d else a))) := by
  refine x_enter [some (.ref 50), some (.ref x), some (.ref t), some (.int (nI d)), none] (by decide) (Nat.le_of_ble_eq_true rfl) rfl (fun v w' h => by obtain ⟨rfl, -⟩ := h; rfl) ?_
  obtain ⟨b, hb1, hb2, hcl⟩ := hcx
  have hK : clK S x := hx.cl hX
  have hcl0 := hcl
  obtain ⟨-, -, -, -, -, -, -, -, -, -, hnb, hbh, -⟩ := hcl0
  obtain ⟨hq, hw, hE⟩ := rowT_in ha.1
  have hR := ha.1.R.2
  have h6 := p5_6 hR
  have hq24 := Nat.lt_of_lt_of_le hq (kFc_le (aR a))
  have htk := x_55 hx htt
  have hnt : ¬ im t := fun z => by have := him t z; omega
  have h40 : sI S t 3 = a 40 := ht.2.2.2.1.trans ha.1.m40.1.symm
  have haY : aY a (a 40) (aE a) d = aY a (a 40) (cSt (aR a) (aW a) (aQ a)) d := by rw [← hE]
  refine x_aload_n 1 1 (ab_dd tk_s_actStop 0 rfl) rfl rfl rfl ?_
  refine x_aload_n 2 2 (ab_dd tk_s_actStop 1 rfl) rfl rfl rfl ?_
  refine t_getI 5 (ab_dd tk_s_actStop 2 rfl) rfl F_s_134 htk.1 htk.2.1 htk.2.2 rfl (x_topn (seaC a) ht.1 ?_)
  refine x_aload_n 6 2 (ab_dd tk_s_actStop 3 rfl) rfl rfl rfl ?_
  refine t_getI 9 (ab_dd tk_s_actStop 4 rfl) rfl F_s_180 htk.1 htk.2.1 htk.2.2 rfl (x_topx (a 40) h40 ?_)
  refine t_callV 12 M_cl_suppose 0 2 [_, _] (ab_dd tk_s_actStop 5 rfl) rfl (by first | decide | omega) K_cl_suppose V_cl_suppose.1 V_cl_suppose.2 L_s_183 rfl (Nat.le_of_ble_eq_true rfl) (by rcases hK.1 with z | z <;> omega) (Nat.lt_of_le_of_lt (Nat.le_add_right x 9) hK.2.1) hK.2.2.1 rfl (c_cl_suppose (by exact hK) him (by exact hcl) hb1 ha.1 hb2.sy hst) (fun v1 w1 h1 => ?_)
  obtain ⟨rfl, S1, st1, rfl, hE1, hcl1, hs1, hs2⟩ := h1
  have hx1 : xSh S1 := hx.eq hE1
  have hK1 : clK S1 x := hK.eq hE1
  have hse1 : seOk S1 := hse.eq hE1 (by simp only [List.mem_cons, List.not_mem_nil, or_false, not_or]; omega) (by simp only [List.mem_cons, List.not_mem_nil, or_false, not_or]; omega) (by simp only [List.mem_cons, List.not_mem_nil, or_false, not_or]; omega) (by simp only [List.mem_cons, List.not_mem_nil, or_false, not_or]; omega)
  have kc1 : kSh S1.1 := by rw [hE1.1]; exact kc
  have ht1 : sdE S1 t (rowT a) := ht.eq hE1 (by simp only [List.mem_cons, List.not_mem_nil, or_false, not_or]; omega)
  have htn1 : t < sn S1 := by rw [hE1.2.2.2.2.2.1]; exact htk.2.1
  have htK1 : sK S1 t = .inr 8 := by rw [hE1.2.1]; exact htk.2.2
  refine x_aload_n 13 1 (ab_dd tk_s_actStop 6 rfl) rfl rfl rfl ?_
  refine x_iload_n 14 3 (ab_dd tk_s_actStop 7 rfl) rfl rfl rfl ?_
  refine x_aload_n 15 2 (ab_dd tk_s_actStop 8 rfl) rfl rfl rfl ?_
  refine t_getI 18 (ab_dd tk_s_actStop 9 rfl) rfl F_s_145 htk.1 htn1 htK1 rfl (x_topn (aW a) ht1.2.1 ?_)
  refine x_aload_n 19 2 (ab_dd tk_s_actStop 10 rfl) rfl rfl rfl ?_
  refine t_getI 22 (ab_dd tk_s_actStop 11 rfl) rfl F_s_151 htk.1 htn1 htK1 rfl (x_topn (aQ a) ht1.2.2.1 ?_)
  refine t_callV 25 M_cl_whyNot 3 3 [_, _, _] (ab_dd tk_s_actStop 12 rfl) rfl (by first | decide | omega) K_cl_whyNot V_cl_whyNot.1 V_cl_whyNot.2 L_s_167 rfl (Nat.le_of_ble_eq_true rfl) (by rcases hK1.1 with z | z <;> omega) (Nat.lt_of_le_of_lt (Nat.le_add_right x 9) hK1.2.1) hK1.2.2.1 rfl (c_cl_whyNot (by exact hK1) him (by exact hcl1) hx1 hse1 kc1 ha d (aW a) (aQ a) (by omega) (by omega) hq) (fun v1 w1 h1 => ?_)
  obtain ⟨rfl, S2, rfl, hE2, hcl2⟩ := h1
  rw [← haY]
  have hx2 : xSh S2 := hx1.eq hE2
  have hK2 : clK S2 x := hK1.eq hE2
  have hse2 : seOk S2 := hse1.eq hE2 (by simp only [List.mem_cons, List.not_mem_nil, or_false, not_or]; omega) (by simp only [List.mem_cons, List.not_mem_nil, or_false, not_or]; omega) (by simp only [List.mem_cons, List.not_mem_nil, or_false, not_or]; omega) (by simp only [List.mem_cons, List.not_mem_nil, or_false, not_or]; omega)
  have kc2 : kSh S2.1 := by rw [hE2.1]; exact kc1
  have ht2 : sdE S2 t (rowT a) := ht1.eq hE2 (by simp only [List.mem_cons, List.not_mem_nil, or_false, not_or]; omega)
  have htn2 : t < sn S2 := by rw [hE2.2.2.2.2.2.1]; exact htn1
  have htK2 : sK S2 t = .inr 8 := by rw [hE2.2.1]; exact htK1
  have hEa : sEq [x, x + 5, x + 6, x + 7, x + 8, x + 9, bh, t] S S2 := (hE1.mono (fun y hy => by rw [List.mem_singleton.mp hy]; exact List.Mem.head _)).tr (hE2.mono (fun y hy => by simp only [List.mem_cons, List.not_mem_nil, or_false] at hy ⊢; omega))
  have hY2 : aY a (a 40) (aE a) d < 3 := aY_lt _ _ _ _
  refine x_istore 27 [some (.ref 50), some (.ref x), some (.ref t), some (.int (nI d)), some (.int (nI (aY a (a 40) (aE a) d)))] 4 (ab_dd tk_s_actStop 13 rfl) rfl (by decide) rfl ?_
  refine x_iload 29 4 (ab_dd tk_s_actStop 14 rfl) rfl rfl ?_
  refine xn_if_ne 32 74 (ab_dd tk_s_actStop 15 rfl) rfl (by decide) (by omega) (fun h29 => ?_) (fun h29 => ?_)
  · refine x_iload 76 4 (ab_dd tk_s_actStop 38 rfl) rfl rfl ?_
    exact x_iret (ab_dd tk_s_actStop 39 rfl) ⟨rfl, S2, st1, rfl, hEa, ⟨a, ha.1, sta.rf, hcl2⟩, hs1, hs2, by rw [if_neg (by omega)]; exact ht2⟩
  · have hdR : d < aR a ∨ d = 0 := aY_0 h29
    have hcq := (cB_sw0 hR hq hw hdR).2
    refine x_aload_n 33 2 (ab_dd tk_s_actStop 16 rfl) rfl rfl rfl ?_
    refine x_aload_n 34 0 (ab_dd tk_s_actStop 17 rfl) rfl rfl rfl ?_
    refine t_getP 37 78 (ab_dd tk_s_actStop 18 rfl) rfl F_s_68 (by decide) (Nat.lt_of_lt_of_le (by decide) hx2.1) (hx2.2.1 0 (by decide)) rfl (hx2.2.2 (50, 11, 78) (by decide)) ?_
    refine x_aload_n 38 2 (ab_dd tk_s_actStop 19 rfl) rfl rfl rfl ?_
    refine t_getI 41 (ab_dd tk_s_actStop 20 rfl) rfl F_s_151 htk.1 htn2 htK2 rfl (x_topn (aQ a) ht2.2.2.1 ?_)
    refine x_iload_n 42 3 (ab_dd tk_s_actStop 21 rfl) rfl rfl rfl ?_
    refine t_callV 45 M_se_changed 0 2 [_, _] (ab_dd tk_s_actStop 22 rfl) rfl (by first | decide | omega) K_se_changed V_se_changed.1 V_se_changed.2 L_s_171 rfl (Nat.le_of_ble_eq_true rfl) (by decide) (Nat.lt_of_lt_of_le (by decide) hx2.1) (hx2.2.1 28 (by decide)) rfl (c_se_changed (by exact hx2) (by exact hse2) (aQ a) d (by omega) (by omega)) (fun v1 w1 h1 => ?_)
    obtain ⟨rfl, rfl⟩ := h1
    refine t_putI 48 (ab_dd tk_s_actStop 23 rfl) rfl F_s_151 htk.1 htn2 htK2 rfl rfl rfl ?_
    refine x_aload_n 49 2 (ab_dd tk_s_actStop 24 rfl) rfl rfl rfl ?_
    refine x_aload_n 50 1 (ab_dd tk_s_actStop 25 rfl) rfl rfl rfl ?_
    refine x_aload_n 51 2 (ab_dd tk_s_actStop 26 rfl) rfl rfl rfl ?_
    refine t_getI 54 (ab_dd tk_s_actStop 27 rfl) rfl F_s_145 htk.1 htn2 htK2 rfl (x_topn (aW a) ((gI_k (by decide)).trans ht2.2.1) ?_)
    refine x_aload_n 55 2 (ab_dd tk_s_actStop 28 rfl) rfl rfl rfl ?_
    refine t_getI 58 (ab_dd tk_s_actStop 29 rfl) rfl F_s_151 htk.1 htn2 htK2 rfl (x_topn (qCh (aQ a) d) gI_s ?_)
    have hE3 : sEq [t] S2 (pI S2 t 2 (nI (qCh (aQ a) d))) := sEq.rf.pI (List.Mem.head _)
    have hclT : clI (pI S2 t 2 (nI (qCh (aQ a) d))) im x c a bh nb st1 := hcl2.eq hE3 (by simp only [List.mem_cons, List.not_mem_nil, or_false, not_or]; omega) (fun y hy => by rw [List.mem_singleton.mp hy]; exact hnt) (by simp only [List.mem_cons, List.not_mem_nil, or_false, not_or]; omega) (by simp only [List.mem_cons, List.not_mem_nil, or_false, not_or]; omega) (by simp only [List.mem_cons, List.not_mem_nil, or_false, not_or]; omega)
    have hseT : seOk (pI S2 t 2 (nI (qCh (aQ a) d))) := hse2.eq hE3 (by simp only [List.mem_cons, List.not_mem_nil, or_false, not_or]; omega) (by simp only [List.mem_cons, List.not_mem_nil, or_false, not_or]; omega) (by simp only [List.mem_cons, List.not_mem_nil, or_false, not_or]; omega) (by simp only [List.mem_cons, List.not_mem_nil, or_false, not_or]; omega)
    refine t_callV 61 M_cl_behind 3 2 [_, _] (ab_dd tk_s_actStop 30 rfl) rfl (by first | decide | omega) K_cl_behind V_cl_behind.1 V_cl_behind.2 L_s_174 rfl (Nat.le_of_ble_eq_true rfl) (by rcases hK2.1 with z | z <;> omega) (Nat.lt_of_le_of_lt (Nat.le_add_right x 9) hK2.2.1) hK2.2.2.1 rfl (c_cl_behind (by exact hK2) him hclT (by exact hx2) hseT (by exact kc2) ha (aW a) (qCh (aQ a) d) hw hcq) (fun v1 w1 h1 => ?_)
    obtain ⟨rfl, S4, rfl, hE4, hcl4⟩ := h1
    have hx4 : xSh S4 := xSh.eq (by exact hx2) hE4
    have hK4 : clK S4 x := clK.eq (by exact hK2) hE4
    have htn4 : t < sn S4 := by rw [hE4.2.2.2.2.2.1]; exact htn2
    have htK4 : sK S4 t = .inr 8 := by rw [hE4.2.1]; exact htK2
    have v0 : sI S4 t 0 = nI (seaC a) := (congrFun (hE4.2.2.1 t (by simp only [List.mem_cons, List.not_mem_nil, or_false, not_or]; omega)) 0).trans ((gI_k (by decide)).trans ht2.1)
    have v2 : sI S4 t 2 = nI (qCh (aQ a) d) := (congrFun (hE4.2.2.1 t (by simp only [List.mem_cons, List.not_mem_nil, or_false, not_or]; omega)) 2).trans (gI_s)
    have v3 : sI S4 t 3 = nI (cN (a 40)) := (congrFun (hE4.2.2.1 t (by simp only [List.mem_cons, List.not_mem_nil, or_false, not_or]; omega)) 3).trans ((gI_k (by decide)).trans ht2.2.2.2.1)
    have v4 : sI S4 t 4 = a 41 := (congrFun (hE4.2.2.1 t (by simp only [List.mem_cons, List.not_mem_nil, or_false, not_or]; omega)) 4).trans ((gI_k (by decide)).trans ht2.2.2.2.2)
    have hEb : sEq [x, x + 5, x + 6, x + 7, x + 8, x + 9, bh, t] S S4 := (hEa.tr (hE3.mono (fun y hy => by rw [List.mem_singleton.mp hy]; simp))).tr (hE4.mono (fun y hy => by simp only [List.mem_cons, List.not_mem_nil, or_false] at hy ⊢; omega))
    refine t_putI 64 (ab_dd tk_s_actStop 31 rfl) rfl F_s_145 htk.1 htn4 htK4 rfl rfl rfl ?_
    refine x_aload_n 65 2 (ab_dd tk_s_actStop 32 rfl) rfl rfl rfl ?_
    refine x_dup 66 (ab_dd tk_s_actStop 33 rfl) rfl rfl ?_
    refine t_getI 69 (ab_dd tk_s_actStop 34 rfl) rfl F_s_263 htk.1 htn4 htK4 rfl (x_topx (a 41) ((gI_k (by decide)).trans v4) ?_)
    refine x_iconst 70 1 (ab_dd tk_s_actStop 35 rfl) rfl (by decide) (x_topn 1 rfl ?_)
    refine x_iadd 71 (ab_dd tk_s_actStop 36 rfl) rfl (x_topx (a 41 + 1) rfl ?_)
    refine t_putI 74 (ab_dd tk_s_actStop 37 rfl) rfl F_s_263 htk.1 htn4 htK4 rfl rfl rfl ?_
    refine x_iload 76 4 (ab_dd tk_s_actStop 38 rfl) rfl rfl ?_
    have hE5 : sEq [t] S4 (pI (pI S4 t 1 (nI (cB a (aW a) (qCh (aQ a) d)))) t 4 (a 41 + 1)) := (sEq.rf.pI (List.Mem.head _)).pI (List.Mem.head _)
    exact x_iret (ab_dd tk_s_actStop 39 rfl) ⟨rfl, _, st1, rfl, hEb.tr (hE5.mono (fun y hy => by rw [List.mem_singleton.mp hy]; simp)), ⟨a, ha.1, sta.rf, hcl4.eq hE5 (by simp only [List.mem_cons, List.not_mem_nil, or_false, not_or]; omega) (fun y hy => by rw [List.mem_singleton.mp hy]; exact hnt) (by simp only [List.mem_cons, List.not_mem_nil, or_false, not_or]; omega) (by simp only [List.mem_cons, List.not_mem_nil, or_false, not_or]; omega) (by simp only [List.mem_cons, List.not_mem_nil, or_false, not_or]; omega)⟩, hs1, hs2, by rw [if_pos h29, rowT_go ha.1 hdR]; exact ⟨((gI_k (by decide)).trans ((gI_k (by decide)).trans v0)), ((gI_k (by decide)).trans gI_s), ((gI_k (by decide)).trans ((gI_k (by decide)).trans v2)), ((gI_k (by decide)).trans ((gI_k (by decide)).trans v3)), gI_s⟩⟩
