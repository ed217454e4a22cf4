/-! ===== calls that ask the rows ===== -/
theorem nI_cN {x : Int32} (h : 0 ≤ x) : x = nI (cN x) := by
  have hle : x ≤ 2147483647 := Int32.le_iff_toInt_le.mpr (Int32.toInt_le x)
  obtain ⟨q, hq, e⟩ := nI_of2 (M := 2147483647) (n := 2147483647) (by decide) (Int32.not_lt.mpr h) hle
  rw [e, cN_nI (by omega)]
def tb_s_stands : List (Nat × Instr × Nat) := [(0, .aload_n 0, 1), (1, .invokevirtual 293, 3), (4, .invokevirtual 319, 3), (7, .ireturn, 1)]
theorem tk_s_stands : ∀ q ∈ tb_s_stands, decode M_s_stands.2.1 q.1 = .ok q.2 := by decide +kernel
theorem p_s_stands {G : ab_G} {S : ab_S} {im : Nat → Prop} {a b : Nat → Int32} {c bh nb st st2 u : Nat} (h : kBd S im a c b bh nb st st2 u) (ht : sdE S 55 (rowT a)) (hu : u + 64 < 2 ^ 20) {T : Nat} (hT : (cL a T).length = T) : ab_C G 7 M_s_stands [.ref 50] (sw S) (fun v w' => pAs S im a c bh nb u 0 0 (some (.int (nI T))) v w') := by
  refine x_enter [some (.ref 50)] (by decide) (Nat.le_of_ble_eq_true rfl) rfl (fun v w' h => by obtain ⟨rfl, -⟩ := h; rfl) ?_
  have hbh := h.bh.1
  have h0 := h
  obtain ⟨hx, hse, kc, ⟨him, hil, h145⟩, ha, hc, ⟨hb1, hb2, hcl, hnb⟩, hcl9, -, hid, -, hu1, hu2⟩ := h0
  have h40 : sI S 55 3 = a 40 := ht.2.2.2.1.trans ha.1.m40.1.symm
  refine x_aload_n 1 0 (ab_dd tk_s_stands 0 rfl) rfl rfl rfl ?_
  refine t_callV 4 M_s_rowsNow 3 0 [] (ab_dd tk_s_stands 1 rfl) rfl (by first | decide | omega) K_s_rowsNow V_s_rowsNow.1 V_s_rowsNow.2 L_s_293 rfl (Nat.le_of_ble_eq_true rfl) (by decide) (Nat.lt_of_lt_of_le (by decide) hx.1) (hx.2.1 0 (by decide)) rfl (b_s_rowsNow h ht (by omega)) (fun v1 w1 h1 => ?_)
  obtain ⟨S1, s1, r, N, k1, rs, rfl, rfl, hF1, hG1, hB1, hn1, hR1, hN1⟩ := h1
  have hB1c := hB1
  obtain ⟨hx1, hse1, kc1, -, -, -, ⟨-, -, hcl1, -⟩, -⟩ := hB1c
  have hR1c := hR1
  obtain ⟨-, hi1, hb1, hO1, -, -, -, -, hI1, -⟩ := hR1c
  have hA1 := gA.rows h hF1 hG1 hR1
  have hr1 := hO1.1
  refine t_callV 7 M_ro_openAll 5 0 [] (ab_dd tk_s_stands 2 rfl) rfl (by first | decide | omega) K_ro_openAll V_ro_openAll.1 V_ro_openAll.2 L_s_319 rfl (Nat.le_of_ble_eq_true rfl) (Nat.le_trans (by decide) hr1) (Nat.lt_of_le_of_lt (Nat.le_add_right r 7) hO1.2.1) hO1.2.2.1 rfl (c_ro_openAll hx1 hse1 kc1 him (Or.inl rfl) hcl1 ha hO1 hi1 hb1 hI1) (fun v1 w1 h1 => ?_)
  obtain ⟨S2, k2, rfl, rfl, hE2, hcl2, hI2, e9, e14, -, e15⟩ := h1
  obtain ⟨hB2, hR2, hF2, hG2⟩ := hB1.rgo hR1 hE2 (fun y hy => by simp only [List.mem_cons, List.not_mem_nil, or_false] at hy; omega) hcl2 hI2 e9 e14
  have eT : k2 = T := by
    have z1 := cL_lt hT (Nat.le_of_eq e15)
    have z2 := cL_lt e15.symm (Nat.le_of_eq hT.symm)
    omega
  rw [eT]
  exact x_iret (ab_dd tk_s_stands 3 rfl) ⟨rfl, S2, a, s1, st2, rfl, hF1.tr hF2, hA1.tr hG2, hB2.up (by omega), hn1.eq hE2 (by simp only [List.mem_cons, List.not_mem_nil, or_false, not_or]; omega)⟩
def tb_s_keeps : List (Nat × Instr × Nat) := [(0, .iload_n 1, 1), (1, .i2l, 1), (2, .invokestatic 283, 3), (5, .ifCond .eq 14, 3), (8, .aload_n 0, 1), (9, .invokevirtual 293, 3), (12, .iload_n 1, 1), (13, .invokevirtual 313, 3), (16, .goto 5, 3), (19, .bipush (-3), 2), (21, .ireturn, 1)]
theorem tk_s_keeps : ∀ q ∈ tb_s_keeps, decode M_s_keeps.2.1 q.1 = .ok q.2 := by decide +kernel
theorem p_s_keeps {G : ab_G} {S : ab_S} {im : Nat → Prop} {a b : Nat → Int32} {c bh nb st st2 u : Nat} (h : kBd S im a c b bh nb st st2 u) (ht : sdE S 55 (rowT a)) (hu : u + 64 < 2 ^ 20) {T : Nat} (hT : (cL a T).length = T) (k : Int32) : ab_C G 7 M_s_keeps [.ref 50, .int k] (sw S) (fun v w' => ∃ v0, pAs S im a c bh nb u 0 0 (some (.int v0)) v w' ∧ ((¬ (0 ≤ k ∧ k ≤ 4) ∧ v0 = -3) ∨ ((0 ≤ k ∧ k ≤ 4) ∧ lgst (fun m => kp (gI a T) (gW a T (cN k)) m 0) v0))) := by
  refine x_enter [some (.ref 50), some (.int k)] (by decide) (Nat.le_of_ble_eq_true rfl) rfl (fun v w' h => by obtain ⟨v0, ⟨rfl, -⟩, -⟩ := h; rfl) ?_
  have hbh := h.bh.1
  have h0 := h
  obtain ⟨hx, hse, kc, ⟨him, hil, h145⟩, ha, hc, ⟨hb1, hb2, hcl, hnb⟩, hcl9, -, hid, -, hu1, hu2⟩ := h0
  have h40 : sI S 55 3 = a 40 := ht.2.2.2.1.trans ha.1.m40.1.symm
  refine x_iload_n 1 1 (ab_dd tk_s_keeps 0 rfl) rfl rfl rfl ?_
  refine x_i2l 2 (ab_dd tk_s_keeps 1 rfl) rfl ?_
  refine x_callS 5 M_s_isWarmth 0 1 [_] (ab_dd tk_s_keeps 2 rfl) rfl (by first | decide | omega) K_s_isWarmth T_s_isWarmth L_s_283 rfl (Nat.le_of_ble_eq_true rfl) (cx_isWarmth k) (fun v1 w1 h1 => ?_)
  obtain ⟨rfl, rfl⟩ := h1
  refine xb_if_eq 8 19 (ab_dd tk_s_keeps 3 rfl) rfl (by decide) (fun h5 => ?_) (fun h5 => ?_)
  · refine x_bipush 21 (-3) (ab_dd tk_s_keeps 9 rfl) rfl (by decide) ?_
    exact x_iret (ab_dd tk_s_keeps 10 rfl) ⟨-3, ⟨rfl, S, b, st, st2, rfl, fAs.rf, gA.rf, h.up (by omega), ht⟩, Or.inl ⟨h5, rfl⟩⟩
  · obtain ⟨q, hq, ekq, enq⟩ := in_get (n := 4) (by decide) h5
    rw [show some (Value.int k) = some (Value.int (nI q)) by rw [ekq], enq]
    refine x_aload_n 9 0 (ab_dd tk_s_keeps 4 rfl) rfl rfl rfl ?_
    refine t_callV 12 M_s_rowsNow 3 0 [] (ab_dd tk_s_keeps 5 rfl) rfl (by first | decide | omega) K_s_rowsNow V_s_rowsNow.1 V_s_rowsNow.2 L_s_293 rfl (Nat.le_of_ble_eq_true rfl) (by decide) (Nat.lt_of_lt_of_le (by decide) hx.1) (hx.2.1 0 (by decide)) rfl (b_s_rowsNow h ht (by omega)) (fun v1 w1 h1 => ?_)
    obtain ⟨S1, s1, r, N, k1, rs, rfl, rfl, hF1, hG1, hB1, hn1, hR1, hN1⟩ := h1
    have hB1c := hB1
    obtain ⟨hx1, hse1, kc1, -, -, -, ⟨-, -, hcl1, -⟩, -⟩ := hB1c
    have hR1c := hR1
    obtain ⟨-, hi1, hb1, hO1, -, -, -, -, hI1, -⟩ := hR1c
    have hA1 := gA.rows h hF1 hG1 hR1
    have hr1 := hO1.1
    refine x_iload_n 13 1 (ab_dd tk_s_keeps 6 rfl) rfl rfl rfl ?_
    refine t_callV 16 M_ro_longestWarm 5 1 [_] (ab_dd tk_s_keeps 7 rfl) rfl (by first | decide | omega) K_ro_longestWarm V_ro_longestWarm.1 V_ro_longestWarm.2 L_s_313 rfl (Nat.le_of_ble_eq_true rfl) (Nat.le_trans (by decide) hr1) (Nat.lt_of_le_of_lt (Nat.le_add_right r 7) hO1.2.1) hO1.2.2.1 rfl (c_ro_longestWarm hx1 hse1 kc1 him (Or.inl rfl) hcl1 ha hO1 hi1 hb1 hI1 hT q (by omega)) (fun v1 w1 h1 => ?_)
    obtain ⟨S2, k2, v0, rfl, rfl, hE2, hcl2, hI2, e9, e14, -, hL⟩ := h1
    obtain ⟨hB2, hR2, hF2, hG2⟩ := hB1.rgo hR1 hE2 (fun y hy => by simp only [List.mem_cons, List.not_mem_nil, or_false] at hy; omega) hcl2 hI2 e9 e14
    refine x_goto 21 (ab_dd tk_s_keeps 8 rfl) (by decide) ?_
    exact x_iret (ab_dd tk_s_keeps 10 rfl) ⟨v0, ⟨rfl, S2, a, s1, st2, rfl, hF1.tr hF2, hA1.tr hG2, hB2.up (by omega), hn1.eq hE2 (by simp only [List.mem_cons, List.not_mem_nil, or_false, not_or]; omega)⟩, Or.inr ⟨h5, hL⟩⟩
def tb_s_most : List (Nat × Instr × Nat) := [(0, .aload_n 0, 1), (1, .iload_n 1, 1), (2, .i2l, 1), (3, .invokevirtual 130, 3), (6, .ifCond .eq 14, 3), (9, .aload_n 0, 1), (10, .invokevirtual 293, 3), (13, .iload_n 1, 1), (14, .invokevirtual 316, 3), (17, .goto 5, 3), (20, .bipush (-2), 2), (22, .ireturn, 1)]
theorem tk_s_most : ∀ q ∈ tb_s_most, decode M_s_most.2.1 q.1 = .ok q.2 := by decide +kernel
theorem p_s_most {G : ab_G} {S : ab_S} {im : Nat → Prop} {a b : Nat → Int32} {c bh nb st st2 u : Nat} (h : kBd S im a c b bh nb st st2 u) (ht : sdE S 55 (rowT a)) (hu : u + 64 < 2 ^ 20) {T : Nat} (hT : (cL a T).length = T) (p : Int32) : ab_C G 7 M_s_most [.ref 50, .int p] (sw S) (fun v w' => ∃ v0, pAs S im a c bh nb u 0 0 (some (.int v0)) v w' ∧ ((¬ (0 ≤ p ∧ cN p < aR a) ∧ v0 = -2) ∨ ((0 ≤ p ∧ cN p < aR a) ∧ v0 = nI (mxW (gC a T) (cN p) T)))) := by
  refine x_enter [some (.ref 50), some (.int p)] (by decide) (Nat.le_of_ble_eq_true rfl) rfl (fun v w' h => by obtain ⟨v0, ⟨rfl, -⟩, -⟩ := h; rfl) ?_
  have hbh := h.bh.1
  have h0 := h
  obtain ⟨hx, hse, kc, ⟨him, hil, h145⟩, ha, hc, ⟨hb1, hb2, hcl, hnb⟩, hcl9, -, hid, -, hu1, hu2⟩ := h0
  have h40 : sI S 55 3 = a 40 := ht.2.2.2.1.trans ha.1.m40.1.symm
  have hca := hcl.1.sta hb2.sy
  obtain ⟨hk, c1, -⟩ := hca
  have hR := ha.1.R.2
  refine x_aload_n 1 0 (ab_dd tk_s_most 0 rfl) rfl rfl rfl ?_
  refine x_iload_n 2 1 (ab_dd tk_s_most 1 rfl) rfl rfl rfl ?_
  refine x_i2l 3 (ab_dd tk_s_most 2 rfl) rfl ?_
  refine t_callV 6 M_s_isRider 0 1 [_] (ab_dd tk_s_most 3 rfl) rfl (by first | decide | omega) K_s_isRider V_s_isRider.1 V_s_isRider.2 L_s_130 rfl (Nat.le_of_ble_eq_true rfl) (by decide) (Nat.lt_of_lt_of_le (by decide) hx.1) (hx.2.1 0 (by decide)) rfl (cx_isRider (by exact hx) hc hk hR c1 p) (fun v1 w1 h1 => ?_)
  obtain ⟨rfl, rfl⟩ := h1
  refine xb_if_eq 9 20 (ab_dd tk_s_most 4 rfl) rfl (by decide) (fun h6 => ?_) (fun h6 => ?_)
  · refine x_bipush 22 (-2) (ab_dd tk_s_most 10 rfl) rfl (by decide) ?_
    exact x_iret (ab_dd tk_s_most 11 rfl) ⟨-2, ⟨rfl, S, b, st, st2, rfl, fAs.rf, gA.rf, h.up (by omega), ht⟩, Or.inl ⟨h6, rfl⟩⟩
  · obtain ⟨q, ekq, enq⟩ : ∃ q, p = nI q ∧ cN p = q := ⟨cN p, nI_cN h6.1, rfl⟩
    rw [show some (Value.int p) = some (Value.int (nI q)) by rw [ekq], enq]
    have hq4 : q < 4 := by omega
    refine x_aload_n 10 0 (ab_dd tk_s_most 5 rfl) rfl rfl rfl ?_
    refine t_callV 13 M_s_rowsNow 3 0 [] (ab_dd tk_s_most 6 rfl) rfl (by first | decide | omega) K_s_rowsNow V_s_rowsNow.1 V_s_rowsNow.2 L_s_293 rfl (Nat.le_of_ble_eq_true rfl) (by decide) (Nat.lt_of_lt_of_le (by decide) hx.1) (hx.2.1 0 (by decide)) rfl (b_s_rowsNow h ht (by omega)) (fun v1 w1 h1 => ?_)
    obtain ⟨S1, s1, r, N, k1, rs, rfl, rfl, hF1, hG1, hB1, hn1, hR1, hN1⟩ := h1
    have hB1c := hB1
    obtain ⟨hx1, hse1, kc1, -, -, -, ⟨-, -, hcl1, -⟩, -⟩ := hB1c
    have hR1c := hR1
    obtain ⟨-, hi1, hb1, hO1, -, -, -, -, hI1, -⟩ := hR1c
    have hA1 := gA.rows h hF1 hG1 hR1
    have hr1 := hO1.1
    refine x_iload_n 14 1 (ab_dd tk_s_most 7 rfl) rfl rfl rfl ?_
    refine t_callV 17 M_ro_greatestWarmth 5 1 [_] (ab_dd tk_s_most 8 rfl) rfl (by first | decide | omega) K_ro_greatestWarmth V_ro_greatestWarmth.1 V_ro_greatestWarmth.2 L_s_316 rfl (Nat.le_of_ble_eq_true rfl) (Nat.le_trans (by decide) hr1) (Nat.lt_of_le_of_lt (Nat.le_add_right r 7) hO1.2.1) hO1.2.2.1 rfl (c_ro_greatestWarmth hx1 hse1 kc1 him (Or.inl rfl) hcl1 ha hO1 hi1 hb1 hI1 q hq4) (fun v1 w1 h1 => ?_)
    obtain ⟨S2, k2, rfl, rfl, hE2, hcl2, hI2, e9, e14, -, e15⟩ := h1
    obtain ⟨hB2, hR2, hF2, hG2⟩ := hB1.rgo hR1 hE2 (fun y hy => by simp only [List.mem_cons, List.not_mem_nil, or_false] at hy; omega) hcl2 hI2 e9 e14
    rw [most_c ha.1 hT hI2.2.1 e15]
    refine x_goto 22 (ab_dd tk_s_most 9 rfl) (by decide) ?_
    exact x_iret (ab_dd tk_s_most 11 rfl) ⟨_, ⟨rfl, S2, a, s1, st2, rfl, hF1.tr hF2, hA1.tr hG2, hB2.up (by omega), hn1.eq hE2 (by simp only [List.mem_cons, List.not_mem_nil, or_false, not_or]; omega)⟩, Or.inr ⟨enq ▸ h6, rfl⟩⟩
