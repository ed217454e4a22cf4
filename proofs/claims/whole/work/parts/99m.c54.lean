/-! ===== by, fault ===== -/
def tb_s_by : List (Nat × Instr × Nat) := [(0, .aload_n 0, 1), (1, .iload_n 2, 1), (2, .i2l, 1), (3, .invokevirtual 130, 3), (6, .ifCond .ne 6, 3), (9, .bipush (-2), 2), (11, .ireturn, 1), (12, .aload_n 0, 1), (13, .invokevirtual 163, 3), (16, .astore_n 3, 1), (17, .aload_n 3, 1), (18, .iload_n 1, 1), (19, .aload_n 0, 1), (20, .getfield 27, 3), (23, .getfield 145, 3), (26, .aload_n 0, 1), (27, .getfield 27, 3), (30, .getfield 151, 3), (33, .invokevirtual 167, 3), (36, .ifCond .eq 6, 3), (39, .bipush (-5), 2), (41, .ireturn, 1), (42, .aload_n 3, 1), (43, .aload_n 0, 1), (44, .getfield 27, 3), (47, .getfield 145, 3), (50, .aload_n 0, 1), (51, .getfield 68, 3), (54, .aload_n 0, 1), (55, .getfield 27, 3), (58, .getfield 151, 3), (61, .iload_n 1, 1), (62, .invokevirtual 171, 3), (65, .invokevirtual 174, 3), (68, .iload_n 2, 1), (69, .invokestatic 148, 3), (72, .ireturn, 1)]
theorem tk_s_by : ∀ q ∈ tb_s_by, decode M_s_by.2.1 q.1 = .ok q.2 := by decide +kernel
theorem p_s_by {G : ab_G} {S : ab_S} {im : Nat → Prop} {a b : Nat → Int32} {c bh nb st st2 u : Nat} (h : kBd S im a c b bh nb st st2 u) (ht : sdE S 55 (rowT a)) (hu : u + 64 < 2 ^ 20) (d p : Int32) : ab_C G 7 M_s_by [.ref 50, .int d, .int p] (sw S) (fun v w' => pAs S im a c bh nb u 0 0 (some (.int (if 0 ≤ p ∧ cN p < aR a then (if d < 0 ∨ aY a (a 40) (aE a) (cN d) ≠ 0 then -5 else nI (mWa (aS a (a 40) (aE a) (cN d)) (cN p))) else -2))) v w') := by
  refine x_enter [some (.ref 50), some (.int d), some (.int p), none] (by decide) (Nat.le_of_ble_eq_true rfl) rfl (fun v w' h => by obtain ⟨rfl, -⟩ := h; rfl) ?_
  have hbh := h.bh.1
  have h0 := h
  obtain ⟨hx, hse, kc, ⟨him, hil, h145⟩, ha, hc, ⟨hb1, hb2, hcl, hnb⟩, hcl9, -, hid, -, hu1, hu2⟩ := h0
  have h40 : sI S 55 3 = a 40 := ht.2.2.2.1.trans ha.1.m40.1.symm
  have hca := hcl.1.sta hb2.sy
  obtain ⟨hk, c1, -⟩ := hca
  have hR := ha.1.R.2
  have h50 : 50 ≤ sn S := by omega
  obtain ⟨hq0, hw0, hE0⟩ := rowT_in ha.1
  have hw6 : aW a < 625 := by have := p5_6 hR; omega
  have hq24 := Nat.lt_of_lt_of_le hq0 (kFc_le (aR a))
  by_cases hd : d < 0
  · rw [if_pos (Or.inl hd)]
    refine x_aload_n 1 0 (ab_dd tk_s_by 0 rfl) rfl rfl rfl ?_
    refine x_iload_n 2 2 (ab_dd tk_s_by 1 rfl) rfl rfl rfl ?_
    refine x_i2l 3 (ab_dd tk_s_by 2 rfl) rfl ?_
    refine t_callV 6 M_s_isRider 0 1 [_] (ab_dd tk_s_by 3 rfl) rfl (by first | decide | omega) K_s_isRider V_s_isRider.1 V_s_isRider.2 L_s_130 rfl (Nat.le_of_ble_eq_true rfl) (by decide) (Nat.lt_of_lt_of_le (by decide) hx.1) (hx.2.1 0 (by decide)) rfl (cx_isRider (by exact hx) hc hk hR c1 p) (fun v1 w1 h1 => ?_)
    obtain ⟨rfl, rfl⟩ := h1
    refine xb_if_ne 9 12 (ab_dd tk_s_by 4 rfl) rfl (by decide) (fun h6 => ?_) (fun h6 => ?_)
    · refine x_aload_n 13 0 (ab_dd tk_s_by 7 rfl) rfl rfl rfl ?_
      refine t_callV 16 M_s_lawsNow 1 0 [] (ab_dd tk_s_by 8 rfl) rfl (by first | decide | omega) K_s_lawsNow V_s_lawsNow.1 V_s_lawsNow.2 L_s_163 rfl (Nat.le_of_ble_eq_true rfl) (by decide) (Nat.lt_of_lt_of_le (by decide) hx.1) (hx.2.1 0 (by decide)) rfl (b_s_lawsNow h ht (by omega)) (fun v1 w1 h1 => ?_)
      obtain ⟨rfl, S1, s1, rfl, hE1, hB1, hn1⟩ := h1
      have hB1c := hB1
      obtain ⟨hx1, hse1, kc1, -, -, -, ⟨-, -, hcl1, -⟩, -, -, -, -, hsu1, -⟩ := hB1c
      have hF1 : fAs im bh S S1 := fAs.of (gF.sE hE1) (by omega) (fun y _ z => by have := List.mem_singleton.mp z; omega) (by omega)
      refine x_astore_n 17 [some (.ref 50), some (.int d), some (.int p), some (.ref 84)] 3 (ab_dd tk_s_by 9 rfl) rfl rfl (by decide) rfl ?_
      refine x_aload_n 18 3 (ab_dd tk_s_by 10 rfl) rfl rfl rfl ?_
      refine x_iload_n 19 1 (ab_dd tk_s_by 11 rfl) rfl rfl rfl ?_
      refine x_aload_n 20 0 (ab_dd tk_s_by 12 rfl) rfl rfl rfl ?_
      refine t_getP 23 55 (ab_dd tk_s_by 13 rfl) rfl F_s_27 (by decide) (Nat.lt_of_lt_of_le (by decide) hx1.1) (hx1.2.1 0 (by decide)) rfl (hx1.2.2 (50, 3, 55) (by decide)) ?_
      refine t_getI 26 (ab_dd tk_s_by 14 rfl) rfl F_s_145 (by decide) (Nat.lt_of_lt_of_le (by decide) hx1.1) (hx1.2.1 5 (by decide)) rfl (x_topn (aW a) hn1.2.1 ?_)
      refine x_aload_n 27 0 (ab_dd tk_s_by 15 rfl) rfl rfl rfl ?_
      refine t_getP 30 55 (ab_dd tk_s_by 16 rfl) rfl F_s_27 (by decide) (Nat.lt_of_lt_of_le (by decide) hx1.1) (hx1.2.1 0 (by decide)) rfl (hx1.2.2 (50, 3, 55) (by decide)) ?_
      refine t_getI 33 (ab_dd tk_s_by 17 rfl) rfl F_s_151 (by decide) (Nat.lt_of_lt_of_le (by decide) hx1.1) (hx1.2.1 5 (by decide)) rfl (x_topn (aQ a) hn1.2.2.1 ?_)
      refine t_callV 36 M_cl_whyNot 3 3 [_, _, _] (ab_dd tk_s_by 18 rfl) rfl (by first | decide | omega) K_cl_whyNot V_cl_whyNot.1 V_cl_whyNot.2 L_s_167 rfl (Nat.le_of_ble_eq_true rfl) (by decide) (Nat.lt_of_lt_of_le (by decide) hx1.1) (hx1.2.1 34 (by decide)) rfl (c_cl_whyNotN (hx1.cl (Or.inl rfl)) him hcl1 d hd _ _) (fun v1 w1 h1 => ?_)
      obtain ⟨rfl, rfl⟩ := h1
      refine x_if_eq_f 39 (ab_dd tk_s_by 19 rfl) rfl 42 (by decide) (by decide) ?_
      refine x_bipush 41 (-5) (ab_dd tk_s_by 20 rfl) rfl (by decide) ?_
      rw [if_pos h6]
      exact x_iret (ab_dd tk_s_by 21 rfl) ⟨rfl, S1, a, s1, st2, rfl, hF1, gA.sE hE1, hB1.up (by omega), hn1⟩
    · refine x_bipush 11 (-2) (ab_dd tk_s_by 5 rfl) rfl (by decide) ?_
      rw [if_neg h6]
      exact x_iret (ab_dd tk_s_by 6 rfl) ⟨rfl, S, b, st, st2, rfl, fAs.rf, gA.rf, h.up (by omega), ht⟩
  · obtain ⟨q, ekq, enq⟩ : ∃ q, d = nI q ∧ cN d = q := ⟨cN d, nI_cN (Int32.not_lt.mp hd), rfl⟩
    have hq31 : q < 2 ^ 31 := by rw [← enq]; exact cN_31 d
    have hor : (d < 0 ∨ aY a (a 40) (aE a) (cN d) ≠ 0) ↔ aY a (a 40) (cSt (aR a) (aW a) (aQ a)) q ≠ 0 := by rw [enq, hE0]; exact ⟨fun z => z.resolve_left hd, Or.inr⟩
    simp only [hor]
    rw [show some (Value.int d) = some (Value.int (nI q)) by rw [ekq], enq]
    have hY := aY_lt a (a 40) (cSt (aR a) (aW a) (aQ a)) q
    refine x_aload_n 1 0 (ab_dd tk_s_by 0 rfl) rfl rfl rfl ?_
    refine x_iload_n 2 2 (ab_dd tk_s_by 1 rfl) rfl rfl rfl ?_
    refine x_i2l 3 (ab_dd tk_s_by 2 rfl) rfl ?_
    refine t_callV 6 M_s_isRider 0 1 [_] (ab_dd tk_s_by 3 rfl) rfl (by first | decide | omega) K_s_isRider V_s_isRider.1 V_s_isRider.2 L_s_130 rfl (Nat.le_of_ble_eq_true rfl) (by decide) (Nat.lt_of_lt_of_le (by decide) hx.1) (hx.2.1 0 (by decide)) rfl (cx_isRider (by exact hx) hc hk hR c1 p) (fun v1 w1 h1 => ?_)
    obtain ⟨rfl, rfl⟩ := h1
    refine xb_if_ne 9 12 (ab_dd tk_s_by 4 rfl) rfl (by decide) (fun h6 => ?_) (fun h6 => ?_)
    · rw [if_pos h6]
      obtain ⟨m, ekm, enm⟩ : ∃ m, p = nI m ∧ cN p = m := ⟨cN p, nI_cN h6.1, rfl⟩
      have hm4 : m < 4 := by have := h6.2; omega
      rw [show some (Value.int p) = some (Value.int (nI m)) by rw [ekm], enm]
      refine x_aload_n 13 0 (ab_dd tk_s_by 7 rfl) rfl rfl rfl ?_
      refine t_callV 16 M_s_lawsNow 1 0 [] (ab_dd tk_s_by 8 rfl) rfl (by first | decide | omega) K_s_lawsNow V_s_lawsNow.1 V_s_lawsNow.2 L_s_163 rfl (Nat.le_of_ble_eq_true rfl) (by decide) (Nat.lt_of_lt_of_le (by decide) hx.1) (hx.2.1 0 (by decide)) rfl (b_s_lawsNow h ht (by omega)) (fun v1 w1 h1 => ?_)
      obtain ⟨rfl, S1, s1, rfl, hE1, hB1, hn1⟩ := h1
      have hB1c := hB1
      obtain ⟨hx1, hse1, kc1, -, -, -, ⟨-, -, hcl1, -⟩, -, -, -, -, hsu1, -⟩ := hB1c
      have hF1 : fAs im bh S S1 := fAs.of (gF.sE hE1) (by omega) (fun y _ z => by have := List.mem_singleton.mp z; omega) (by omega)
      refine x_astore_n 17 [some (.ref 50), some (.int (nI q)), some (.int (nI m)), some (.ref 84)] 3 (ab_dd tk_s_by 9 rfl) rfl rfl (by decide) rfl ?_
      refine x_aload_n 18 3 (ab_dd tk_s_by 10 rfl) rfl rfl rfl ?_
      refine x_iload_n 19 1 (ab_dd tk_s_by 11 rfl) rfl rfl rfl ?_
      refine x_aload_n 20 0 (ab_dd tk_s_by 12 rfl) rfl rfl rfl ?_
      refine t_getP 23 55 (ab_dd tk_s_by 13 rfl) rfl F_s_27 (by decide) (Nat.lt_of_lt_of_le (by decide) hx1.1) (hx1.2.1 0 (by decide)) rfl (hx1.2.2 (50, 3, 55) (by decide)) ?_
      refine t_getI 26 (ab_dd tk_s_by 14 rfl) rfl F_s_145 (by decide) (Nat.lt_of_lt_of_le (by decide) hx1.1) (hx1.2.1 5 (by decide)) rfl (x_topn (aW a) hn1.2.1 ?_)
      refine x_aload_n 27 0 (ab_dd tk_s_by 15 rfl) rfl rfl rfl ?_
      refine t_getP 30 55 (ab_dd tk_s_by 16 rfl) rfl F_s_27 (by decide) (Nat.lt_of_lt_of_le (by decide) hx1.1) (hx1.2.1 0 (by decide)) rfl (hx1.2.2 (50, 3, 55) (by decide)) ?_
      refine t_getI 33 (ab_dd tk_s_by 17 rfl) rfl F_s_151 (by decide) (Nat.lt_of_lt_of_le (by decide) hx1.1) (hx1.2.1 5 (by decide)) rfl (x_topn (aQ a) hn1.2.2.1 ?_)
      refine t_callV 36 M_cl_whyNot 3 3 [_, _, _] (ab_dd tk_s_by 18 rfl) rfl (by first | decide | omega) K_cl_whyNot V_cl_whyNot.1 V_cl_whyNot.2 L_s_167 rfl (Nat.le_of_ble_eq_true rfl) (by decide) (Nat.lt_of_lt_of_le (by decide) hx1.1) (hx1.2.1 34 (by decide)) rfl (c_cl_whyNot (hx1.cl (Or.inl rfl)) him hcl1 hx1 hse1 kc1 ha q (aW a) (aQ a) hq31 hw6 hq0) (fun v1 w1 h1 => ?_)
      obtain ⟨rfl, S2, rfl, hE2, hcl2⟩ := h1
      have hB2 : kBd S2 im a c a bh nb s1 st2 (u + 1) := hB1.se84 hE2 (fun y hy => by simp only [List.mem_cons, List.not_mem_nil, or_false] at hy; omega) ha sta.rf ha.1 sta.rf hcl2 (kpX.of (hE2.2.2.1 84 (by simp only [List.mem_cons, List.not_mem_nil, or_false, not_or]; omega))) (Nat.le_refl _) (Nat.le_refl _) hsu1
      have hF2 : fAs im bh S1 S2 := fAs.of (gF.sE hE2) (Nat.lt_of_lt_of_le (by decide) hx1.1) (fun y _ z => by simp only [List.mem_cons, List.not_mem_nil, or_false] at z; omega) (by omega)
      have hn2 : sdE S2 55 (rowT a) := hn1.eq hE2 (by simp only [List.mem_cons, List.not_mem_nil, or_false, not_or]; omega)
      have hB2c := hB2
      obtain ⟨hx2, hse2, kc2, ⟨-, -, h1452⟩, -, -, ⟨-, -, hcl2c, -⟩, -⟩ := hB2c
      have h502 : 50 ≤ sn S2 := by omega
      refine xn_if_eq 39 42 (ab_dd tk_s_by 19 rfl) rfl (by decide) (by omega) (fun h36 => ?_) (fun h36 => ?_)
      · have hdR : q < aR a ∨ q = 0 := aY_0 (mo := a 40) (by omega)
        have hq4 : q < 4 := by omega
        have hsw := cB_sw0 hR hq0 hw0 hdR
        have hcq := hsw.2
        refine x_aload_n 43 3 (ab_dd tk_s_by 22 rfl) rfl rfl rfl ?_
        refine x_aload_n 44 0 (ab_dd tk_s_by 23 rfl) rfl rfl rfl ?_
        refine t_getP 47 55 (ab_dd tk_s_by 24 rfl) rfl F_s_27 (by decide) (Nat.lt_of_lt_of_le (by decide) hx2.1) (hx2.2.1 0 (by decide)) rfl (hx2.2.2 (50, 3, 55) (by decide)) ?_
        refine t_getI 50 (ab_dd tk_s_by 25 rfl) rfl F_s_145 (by decide) (Nat.lt_of_lt_of_le (by decide) hx2.1) (hx2.2.1 5 (by decide)) rfl (x_topn (aW a) hn2.2.1 ?_)
        refine x_aload_n 51 0 (ab_dd tk_s_by 26 rfl) rfl rfl rfl ?_
        refine t_getP 54 78 (ab_dd tk_s_by 27 rfl) rfl F_s_68 (by decide) (Nat.lt_of_lt_of_le (by decide) hx2.1) (hx2.2.1 0 (by decide)) rfl (hx2.2.2 (50, 11, 78) (by decide)) ?_
        refine x_aload_n 55 0 (ab_dd tk_s_by 28 rfl) rfl rfl rfl ?_
        refine t_getP 58 55 (ab_dd tk_s_by 29 rfl) rfl F_s_27 (by decide) (Nat.lt_of_lt_of_le (by decide) hx2.1) (hx2.2.1 0 (by decide)) rfl (hx2.2.2 (50, 3, 55) (by decide)) ?_
        refine t_getI 61 (ab_dd tk_s_by 30 rfl) rfl F_s_151 (by decide) (Nat.lt_of_lt_of_le (by decide) hx2.1) (hx2.2.1 5 (by decide)) rfl (x_topn (aQ a) hn2.2.2.1 ?_)
        refine x_iload_n 62 1 (ab_dd tk_s_by 31 rfl) rfl rfl rfl ?_
        refine t_callV 65 M_se_changed 0 2 [_, _] (ab_dd tk_s_by 32 rfl) rfl (by first | decide | omega) K_se_changed V_se_changed.1 V_se_changed.2 L_s_171 rfl (Nat.le_of_ble_eq_true rfl) (by decide) (Nat.lt_of_lt_of_le (by decide) hx2.1) (hx2.2.1 28 (by decide)) rfl (c_se_changed hx2 hse2 (aQ a) q hq24 hq4) (fun v1 w1 h1 => ?_)
        obtain ⟨rfl, rfl⟩ := h1
        refine t_callV 68 M_cl_behind 3 2 [_, _] (ab_dd tk_s_by 33 rfl) rfl (by first | decide | omega) K_cl_behind V_cl_behind.1 V_cl_behind.2 L_s_174 rfl (Nat.le_of_ble_eq_true rfl) (by decide) (Nat.lt_of_lt_of_le (by decide) hx2.1) (hx2.2.1 34 (by decide)) rfl (c_cl_behind (hx2.cl (Or.inl rfl)) him hcl2 hx2 hse2 kc2 ha (aW a) (qCh (aQ a) q) hw0 hcq) (fun v1 w1 h1 => ?_)
        obtain ⟨rfl, S3, rfl, hE3, hcl3⟩ := h1
        have hB3 : kBd S3 im a c a bh nb s1 st2 (u + 1) := hB2.se84 hE3 (fun y hy => by simp only [List.mem_cons, List.not_mem_nil, or_false] at hy; omega) ha sta.rf ha.1 sta.rf hcl3 (kpX.of (hE3.2.2.1 84 (by simp only [List.mem_cons, List.not_mem_nil, or_false, not_or]; omega))) (Nat.le_refl _) (Nat.le_refl _) hsu1
        have hF3 : fAs im bh S2 S3 := fAs.of (gF.sE hE3) (by omega) (fun y _ z => by simp only [List.mem_cons, List.not_mem_nil, or_false] at z; omega) (by omega)
        have hB3c := hB3
        obtain ⟨hx3, -, kc3, ⟨-, -, h1453⟩, -⟩ := hB3c
        have h503 : 50 ≤ sn S3 := by omega
        have hcb : cB a (aW a) (qCh (aQ a) q) < 625 := Nat.mod_lt _ (by decide)
        refine x_iload_n 69 2 (ab_dd tk_s_by 34 rfl) rfl rfl rfl ?_
        refine x_callS 72 M_s_warmthOf 0 2 [_, _] (ab_dd tk_s_by 35 rfl) rfl (by first | decide | omega) K_s_warmthOf T_s_warmthOf L_s_148 rfl (Nat.le_of_ble_eq_true rfl) (c_s_warmthOf kc3 h503 (cB a (aW a) (qCh (aQ a) q)) m hcb hm4) (fun v1 w1 h1 => ?_)
        obtain ⟨rfl, rfl⟩ := h1
        rw [if_neg (show ¬ (aY a (a 40) (cSt (aR a) (aW a) (aQ a)) q ≠ 0) by omega), hE0, hsw.1, cSt_wa hcb]
        exact x_iret (ab_dd tk_s_by 36 rfl) ⟨rfl, S3, a, s1, st2, rfl, (hF1.tr hF2).tr hF3, ((gA.sE hE1).tr (gA.sE hE2)).tr (gA.sE hE3), hB3.up (by omega), hn2.eq hE3 (by simp only [List.mem_cons, List.not_mem_nil, or_false, not_or]; omega)⟩
      · refine x_bipush 41 (-5) (ab_dd tk_s_by 20 rfl) rfl (by decide) ?_
        rw [if_pos (show aY a (a 40) (cSt (aR a) (aW a) (aQ a)) q ≠ 0 by omega)]
        exact x_iret (ab_dd tk_s_by 21 rfl) ⟨rfl, S2, a, s1, st2, rfl, hF1.tr hF2, (gA.sE hE1).tr (gA.sE hE2), hB2.up (by omega), hn2⟩
    · refine x_bipush 11 (-2) (ab_dd tk_s_by 5 rfl) rfl (by decide) ?_
      rw [if_neg h6]
      exact x_iret (ab_dd tk_s_by 6 rfl) ⟨rfl, S, b, st, st2, rfl, fAs.rf, gA.rf, h.up (by omega), ht⟩
