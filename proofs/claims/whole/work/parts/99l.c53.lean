/-! ===== why, seat ===== -/
theorem cN_31 (x : Int32) : cN x < 2 ^ 31 := by
  show x.toInt.toNat < 2 ^ 31
  have := Int32.toInt_le x
  have e : (Int32.maxValue.toInt) = 2147483647 := by decide
  omega
def tb_s_why : List (Nat × Instr × Nat) := [(0, .aload_n 0, 1), (1, .invokevirtual 163, 3), (4, .iload_n 1, 1), (5, .aload_n 0, 1), (6, .getfield 27, 3), (9, .getfield 145, 3), (12, .aload_n 0, 1), (13, .getfield 27, 3), (16, .getfield 151, 3), (19, .invokevirtual 167, 3), (22, .ireturn, 1)]
theorem tk_s_why : ∀ q ∈ tb_s_why, decode M_s_why.2.1 q.1 = .ok q.2 := by decide +kernel
theorem p_s_why {G : ab_G} {S : ab_S} {im : Nat → Prop} {a b : Nat → Int32} {c bh nb st st2 u : Nat} (h : kBd S im a c b bh nb st st2 u) (ht : sdE S 55 (rowT a)) (hu : u + 64 < 2 ^ 20) (d : Int32) : ab_C G 7 M_s_why [.ref 50, .int d] (sw S) (fun v w' => pAs S im a c bh nb u 0 0 (some (.int (if d < 0 then 1 else nI (aY a (a 40) (aE a) (cN d))))) v w') := by
  refine x_enter [some (.ref 50), some (.int d)] (by decide) (Nat.le_of_ble_eq_true rfl) rfl (fun v w' h => by obtain ⟨rfl, -⟩ := h; rfl) ?_
  have hbh := h.bh.1
  have h0 := h
  obtain ⟨hx, hse, kc, ⟨him, hil, h145⟩, ha, hc, ⟨hb1, hb2, hcl, hnb⟩, hcl9, -, hid, -, hu1, hu2⟩ := h0
  have h40 : sI S 55 3 = a 40 := ht.2.2.2.1.trans ha.1.m40.1.symm
  have hca := hcl.1.sta hb2.sy
  obtain ⟨hk, c1, -⟩ := hca
  have hR := ha.1.R.2
  have h50 : 50 ≤ sn S := by omega
  obtain ⟨hq0, hw0, hE0⟩ := rowT_in ha.1
  have hw6 : aW a < 625 := by have := p5_6 hR; omega
  have hq24 := Nat.lt_of_lt_of_le hq0 (kFc_le (aR a))
  by_cases hd : d < 0
  · rw [if_pos hd]
    refine x_aload_n 1 0 (ab_dd tk_s_why 0 rfl) rfl rfl rfl ?_
    refine t_callV 4 M_s_lawsNow 1 0 [] (ab_dd tk_s_why 1 rfl) rfl (by first | decide | omega) K_s_lawsNow V_s_lawsNow.1 V_s_lawsNow.2 L_s_163 rfl (Nat.le_of_ble_eq_true rfl) (by decide) (Nat.lt_of_lt_of_le (by decide) hx.1) (hx.2.1 0 (by decide)) rfl (b_s_lawsNow h ht (by omega)) (fun v1 w1 h1 => ?_)
    obtain ⟨rfl, S1, s1, rfl, hE1, hB1, hn1⟩ := h1
    have hB1c := hB1
    obtain ⟨hx1, hse1, kc1, -, -, -, ⟨-, -, hcl1, -⟩, -, -, -, -, hsu1, -⟩ := hB1c
    have hF1 : fAs im bh S S1 := fAs.of (gF.sE hE1) (by omega) (fun y _ z => by have := List.mem_singleton.mp z; omega) (by omega)
    refine x_iload_n 5 1 (ab_dd tk_s_why 2 rfl) rfl rfl rfl ?_
    refine x_aload_n 6 0 (ab_dd tk_s_why 3 rfl) rfl rfl rfl ?_
    refine t_getP 9 55 (ab_dd tk_s_why 4 rfl) rfl F_s_27 (by decide) (Nat.lt_of_lt_of_le (by decide) hx1.1) (hx1.2.1 0 (by decide)) rfl (hx1.2.2 (50, 3, 55) (by decide)) ?_
    refine t_getI 12 (ab_dd tk_s_why 5 rfl) rfl F_s_145 (by decide) (Nat.lt_of_lt_of_le (by decide) hx1.1) (hx1.2.1 5 (by decide)) rfl (x_topn (aW a) hn1.2.1 ?_)
    refine x_aload_n 13 0 (ab_dd tk_s_why 6 rfl) rfl rfl rfl ?_
    refine t_getP 16 55 (ab_dd tk_s_why 7 rfl) rfl F_s_27 (by decide) (Nat.lt_of_lt_of_le (by decide) hx1.1) (hx1.2.1 0 (by decide)) rfl (hx1.2.2 (50, 3, 55) (by decide)) ?_
    refine t_getI 19 (ab_dd tk_s_why 8 rfl) rfl F_s_151 (by decide) (Nat.lt_of_lt_of_le (by decide) hx1.1) (hx1.2.1 5 (by decide)) rfl (x_topn (aQ a) hn1.2.2.1 ?_)
    refine t_callV 22 M_cl_whyNot 3 3 [_, _, _] (ab_dd tk_s_why 9 rfl) rfl (by first | decide | omega) K_cl_whyNot V_cl_whyNot.1 V_cl_whyNot.2 L_s_167 rfl (Nat.le_of_ble_eq_true rfl) (by decide) (Nat.lt_of_lt_of_le (by decide) hx1.1) (hx1.2.1 34 (by decide)) rfl (c_cl_whyNotN (hx1.cl (Or.inl rfl)) him hcl1 d hd _ _) (fun v1 w1 h1 => ?_)
    obtain ⟨rfl, rfl⟩ := h1
    exact x_iret (ab_dd tk_s_why 10 rfl) ⟨rfl, S1, a, s1, st2, rfl, hF1, gA.sE hE1, hB1.up (by omega), hn1⟩
  · rw [if_neg hd]
    obtain ⟨q, ekq, enq⟩ : ∃ q, d = nI q ∧ cN d = q := ⟨cN d, nI_cN (Int32.not_lt.mp hd), rfl⟩
    have hq31 : q < 2 ^ 31 := by rw [← enq]; exact cN_31 d
    rw [show some (Value.int d) = some (Value.int (nI q)) by rw [ekq], enq, hE0]
    refine x_aload_n 1 0 (ab_dd tk_s_why 0 rfl) rfl rfl rfl ?_
    refine t_callV 4 M_s_lawsNow 1 0 [] (ab_dd tk_s_why 1 rfl) rfl (by first | decide | omega) K_s_lawsNow V_s_lawsNow.1 V_s_lawsNow.2 L_s_163 rfl (Nat.le_of_ble_eq_true rfl) (by decide) (Nat.lt_of_lt_of_le (by decide) hx.1) (hx.2.1 0 (by decide)) rfl (b_s_lawsNow h ht (by omega)) (fun v1 w1 h1 => ?_)
    obtain ⟨rfl, S1, s1, rfl, hE1, hB1, hn1⟩ := h1
    have hB1c := hB1
    obtain ⟨hx1, hse1, kc1, -, -, -, ⟨-, -, hcl1, -⟩, -, -, -, -, hsu1, -⟩ := hB1c
    have hF1 : fAs im bh S S1 := fAs.of (gF.sE hE1) (by omega) (fun y _ z => by have := List.mem_singleton.mp z; omega) (by omega)
    refine x_iload_n 5 1 (ab_dd tk_s_why 2 rfl) rfl rfl rfl ?_
    refine x_aload_n 6 0 (ab_dd tk_s_why 3 rfl) rfl rfl rfl ?_
    refine t_getP 9 55 (ab_dd tk_s_why 4 rfl) rfl F_s_27 (by decide) (Nat.lt_of_lt_of_le (by decide) hx1.1) (hx1.2.1 0 (by decide)) rfl (hx1.2.2 (50, 3, 55) (by decide)) ?_
    refine t_getI 12 (ab_dd tk_s_why 5 rfl) rfl F_s_145 (by decide) (Nat.lt_of_lt_of_le (by decide) hx1.1) (hx1.2.1 5 (by decide)) rfl (x_topn (aW a) hn1.2.1 ?_)
    refine x_aload_n 13 0 (ab_dd tk_s_why 6 rfl) rfl rfl rfl ?_
    refine t_getP 16 55 (ab_dd tk_s_why 7 rfl) rfl F_s_27 (by decide) (Nat.lt_of_lt_of_le (by decide) hx1.1) (hx1.2.1 0 (by decide)) rfl (hx1.2.2 (50, 3, 55) (by decide)) ?_
    refine t_getI 19 (ab_dd tk_s_why 8 rfl) rfl F_s_151 (by decide) (Nat.lt_of_lt_of_le (by decide) hx1.1) (hx1.2.1 5 (by decide)) rfl (x_topn (aQ a) hn1.2.2.1 ?_)
    refine t_callV 22 M_cl_whyNot 3 3 [_, _, _] (ab_dd tk_s_why 9 rfl) rfl (by first | decide | omega) K_cl_whyNot V_cl_whyNot.1 V_cl_whyNot.2 L_s_167 rfl (Nat.le_of_ble_eq_true rfl) (by decide) (Nat.lt_of_lt_of_le (by decide) hx1.1) (hx1.2.1 34 (by decide)) rfl (c_cl_whyNot (hx1.cl (Or.inl rfl)) him hcl1 hx1 hse1 kc1 ha q (aW a) (aQ a) hq31 hw6 hq0) (fun v1 w1 h1 => ?_)
    obtain ⟨rfl, S2, rfl, hE2, hcl2⟩ := h1
    have hB2 : kBd S2 im a c a bh nb s1 st2 (u + 1) := hB1.se84 hE2 (fun y hy => by simp only [List.mem_cons, List.not_mem_nil, or_false] at hy; omega) ha sta.rf ha.1 sta.rf hcl2 (kpX.of (hE2.2.2.1 84 (by simp only [List.mem_cons, List.not_mem_nil, or_false, not_or]; omega))) (Nat.le_refl _) (Nat.le_refl _) hsu1
    have hF2 : fAs im bh S1 S2 := fAs.of (gF.sE hE2) (Nat.lt_of_lt_of_le (by decide) hx1.1) (fun y _ z => by simp only [List.mem_cons, List.not_mem_nil, or_false] at z; omega) (by omega)
    exact x_iret (ab_dd tk_s_why 10 rfl) ⟨rfl, S2, a, s1, st2, rfl, hF1.tr hF2, (gA.sE hE1).tr (gA.sE hE2), hB2.up (by omega), hn1.eq hE2 (by simp only [List.mem_cons, List.not_mem_nil, or_false, not_or]; omega)⟩
def tb_s_seat : List (Nat × Instr × Nat) := [(0, .aload_n 0, 1), (1, .iload_n 1, 1), (2, .i2l, 1), (3, .invokevirtual 130, 3), (6, .ifCond .eq 21, 3), (9, .aload_n 0, 1), (10, .getfield 68, 3), (13, .aload_n 0, 1), (14, .getfield 27, 3), (17, .getfield 151, 3), (20, .iload_n 1, 1), (21, .invokevirtual 160, 3), (24, .goto 5, 3), (27, .bipush (-2), 2), (29, .ireturn, 1)]
theorem tk_s_seat : ∀ q ∈ tb_s_seat, decode M_s_seat.2.1 q.1 = .ok q.2 := by decide +kernel
theorem p_s_seat {G : ab_G} {S : ab_S} {im : Nat → Prop} {a b : Nat → Int32} {c bh nb st st2 u : Nat} (h : kBd S im a c b bh nb st st2 u) (ht : sdE S 55 (rowT a)) (hu : u + 64 < 2 ^ 20) (p : Int32) : ab_C G 7 M_s_seat [.ref 50, .int p] (sw S) (fun v w' => pAs S im a c bh nb u 0 0 (some (.int (if 0 ≤ p ∧ cN p < aR a then nI (qRi (aQ a) (cN p)) else -2))) v w') := by
  refine x_enter [some (.ref 50), some (.int p)] (by decide) (Nat.le_of_ble_eq_true rfl) rfl (fun v w' h => by obtain ⟨rfl, -⟩ := h; rfl) ?_
  have hbh := h.bh.1
  have h0 := h
  obtain ⟨hx, hse, kc, ⟨him, hil, h145⟩, ha, hc, ⟨hb1, hb2, hcl, hnb⟩, hcl9, -, hid, -, hu1, hu2⟩ := h0
  have h40 : sI S 55 3 = a 40 := ht.2.2.2.1.trans ha.1.m40.1.symm
  have hca := hcl.1.sta hb2.sy
  obtain ⟨hk, c1, -⟩ := hca
  have hR := ha.1.R.2
  have h50 : 50 ≤ sn S := by omega
  obtain ⟨hq0, hw0, hE0⟩ := rowT_in ha.1
  have hw6 : aW a < 625 := by have := p5_6 hR; omega
  have hq24 := Nat.lt_of_lt_of_le hq0 (kFc_le (aR a))
  refine x_aload_n 1 0 (ab_dd tk_s_seat 0 rfl) rfl rfl rfl ?_
  refine x_iload_n 2 1 (ab_dd tk_s_seat 1 rfl) rfl rfl rfl ?_
  refine x_i2l 3 (ab_dd tk_s_seat 2 rfl) rfl ?_
  refine t_callV 6 M_s_isRider 0 1 [_] (ab_dd tk_s_seat 3 rfl) rfl (by first | decide | omega) K_s_isRider V_s_isRider.1 V_s_isRider.2 L_s_130 rfl (Nat.le_of_ble_eq_true rfl) (by decide) (Nat.lt_of_lt_of_le (by decide) hx.1) (hx.2.1 0 (by decide)) rfl (cx_isRider (by exact hx) hc hk hR c1 p) (fun v1 w1 h1 => ?_)
  obtain ⟨rfl, rfl⟩ := h1
  refine xb_if_eq 9 27 (ab_dd tk_s_seat 4 rfl) rfl (by decide) (fun h6 => ?_) (fun h6 => ?_)
  · refine x_bipush 29 (-2) (ab_dd tk_s_seat 13 rfl) rfl (by decide) ?_
    rw [if_neg h6]
    exact x_iret (ab_dd tk_s_seat 14 rfl) ⟨rfl, S, b, st, st2, rfl, fAs.rf, gA.rf, h.up (by omega), ht⟩
  · rw [if_pos h6]
    obtain ⟨q, ekq, enq⟩ : ∃ q, p = nI q ∧ cN p = q := ⟨cN p, nI_cN h6.1, rfl⟩
    have hq4 : q < 4 := by have := h6.2; omega
    rw [show some (Value.int p) = some (Value.int (nI q)) by rw [ekq], enq]
    refine x_aload_n 10 0 (ab_dd tk_s_seat 5 rfl) rfl rfl rfl ?_
    refine t_getP 13 78 (ab_dd tk_s_seat 6 rfl) rfl F_s_68 (by decide) (Nat.lt_of_lt_of_le (by decide) hx.1) (hx.2.1 0 (by decide)) rfl (hx.2.2 (50, 11, 78) (by decide)) ?_
    refine x_aload_n 14 0 (ab_dd tk_s_seat 7 rfl) rfl rfl rfl ?_
    refine t_getP 17 55 (ab_dd tk_s_seat 8 rfl) rfl F_s_27 (by decide) (Nat.lt_of_lt_of_le (by decide) hx.1) (hx.2.1 0 (by decide)) rfl (hx.2.2 (50, 3, 55) (by decide)) ?_
    refine t_getI 20 (ab_dd tk_s_seat 9 rfl) rfl F_s_151 (by decide) (Nat.lt_of_lt_of_le (by decide) hx.1) (hx.2.1 5 (by decide)) rfl (x_topn (aQ a) ht.2.2.1 ?_)
    refine x_iload_n 21 1 (ab_dd tk_s_seat 10 rfl) rfl rfl rfl ?_
    refine t_callV 24 M_se_riderIn 0 2 [_, _] (ab_dd tk_s_seat 11 rfl) rfl (by first | decide | omega) K_se_riderIn V_se_riderIn.1 V_se_riderIn.2 L_s_160 rfl (Nat.le_of_ble_eq_true rfl) (by decide) (Nat.lt_of_lt_of_le (by decide) hx.1) (hx.2.1 28 (by decide)) rfl (c_se_riderIn hx hse (aQ a) q hq24 hq4) (fun v1 w1 h1 => ?_)
    obtain ⟨rfl, rfl⟩ := h1
    refine x_goto 29 (ab_dd tk_s_seat 12 rfl) (by decide) ?_
    exact x_iret (ab_dd tk_s_seat 14 rfl) ⟨rfl, S, b, st, st2, rfl, fAs.rf, gA.rf, h.up (by omega), ht⟩
