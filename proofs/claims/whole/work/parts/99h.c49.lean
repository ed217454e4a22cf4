/-! ===== rows, soonest, way ===== -/
def tb_s_rows : List (Nat × Instr × Nat) := [(0, .iload_n 1, 1), (1, .i2l, 1), (2, .invokestatic 283, 3), (5, .ifCond .eq 13, 3), (8, .iload_n 2, 1), (9, .ifCond .lt 9, 3), (12, .iload_n 2, 1), (13, .bipush 12, 2), (15, .if_icmp .le 7, 3), (18, .ldc2_w 307, 3), (21, .lreturn, 1), (22, .aload_n 0, 1), (23, .invokevirtual 293, 3), (26, .iload_n 1, 1), (27, .iload_n 2, 1), (28, .invokevirtual 309, 3), (31, .lreturn, 1)]
theorem tk_s_rows : ∀ q ∈ tb_s_rows, decode M_s_rows.2.1 q.1 = .ok q.2 := by decide +kernel
theorem p_s_rows {G : ab_G} {S : ab_S} {im : Nat → Prop} {a b : Nat → Int32} {c bh nb st st2 u : Nat} (h : kBd S im a c b bh nb st st2 u) (ht : sdE S 55 (rowT a)) (hu : u + 64 < 2 ^ 20) {T : Nat} (hT : (cL a T).length = T) (k n : Int32) : ab_C G 7 M_s_rows [.ref 50, .int k, .int n] (sw S) (fun v w' => ∃ v0, pAs S im a c bh nb u 0 0 (some (.long v0)) v w' ∧ ((¬ ((0 ≤ k ∧ k ≤ 4) ∧ (0 ≤ n ∧ n ≤ 12)) ∧ v0 = -3) ∨ (((0 ≤ k ∧ k ≤ 4) ∧ (0 ≤ n ∧ n ≤ 12)) ∧ v0 = lN (gT (gI a T) (gWb a T (cN k)) (cN n) 0)))) := by
  refine x_enter [some (.ref 50), some (.int k), some (.int n)] (by decide) (Nat.le_of_ble_eq_true rfl) rfl (fun v w' h => by obtain ⟨v0, ⟨rfl, -⟩, -⟩ := h; trivial) ?_
  have hbh := h.bh.1
  have h0 := h
  obtain ⟨hx, hse, kc, ⟨him, hil, h145⟩, ha, hc, ⟨hb1, hb2, hcl, hnb⟩, hcl9, -, hid, -, hu1, hu2⟩ := h0
  have h40 : sI S 55 3 = a 40 := ht.2.2.2.1.trans ha.1.m40.1.symm
  have h50 : 50 ≤ sn S := by omega
  refine x_iload_n 1 1 (ab_dd tk_s_rows 0 rfl) rfl rfl rfl ?_
  refine x_i2l 2 (ab_dd tk_s_rows 1 rfl) rfl ?_
  refine x_callS 5 M_s_isWarmth 0 1 [_] (ab_dd tk_s_rows 2 rfl) rfl (by first | decide | omega) K_s_isWarmth T_s_isWarmth L_s_283 rfl (Nat.le_of_ble_eq_true rfl) (cx_isWarmth k) (fun v1 w1 h1 => ?_)
  obtain ⟨rfl, rfl⟩ := h1
  refine xb_if_eq 8 18 (ab_dd tk_s_rows 3 rfl) rfl (by decide) (fun h5 => ?_) (fun h5 => ?_)
  · refine x_ldc2 21 (ab_dd tk_s_rows 9 rfl) rfl C_s_307 ?_
    exact x_lret (ab_dd tk_s_rows 10 rfl) ⟨-3, ⟨rfl, S, b, st, st2, rfl, fAs.rf, gA.rf, h.up (by omega), ht⟩, Or.inl ⟨fun z => h5 z.1, rfl⟩⟩
  · refine x_iload_n 9 2 (ab_dd tk_s_rows 4 rfl) rfl rfl rfl ?_
    refine x_if_lt 12 18 (ab_dd tk_s_rows 5 rfl) rfl (by decide) (fun h9 => ?_) (fun h9 => ?_)
    · refine x_ldc2 21 (ab_dd tk_s_rows 9 rfl) rfl C_s_307 ?_
      exact x_lret (ab_dd tk_s_rows 10 rfl) ⟨-3, ⟨rfl, S, b, st, st2, rfl, fAs.rf, gA.rf, h.up (by omega), ht⟩, Or.inl ⟨fun z => absurd h9 (Int32.not_lt.mpr z.2.1), rfl⟩⟩
    · refine x_iload_n 13 2 (ab_dd tk_s_rows 6 rfl) rfl rfl rfl ?_
      refine x_bipush 15 12 (ab_dd tk_s_rows 7 rfl) rfl (by decide) (x_topn 12 rfl ?_)
      refine x_icmp_le 18 22 (ab_dd tk_s_rows 8 rfl) rfl (by decide) (fun h15 => ?_) (fun h15 => ?_)
      · have hkn := And.intro h5 (And.intro (Int32.not_lt.mp h9) h15)
        obtain ⟨q, hq, ekq, enq⟩ := in_get (n := 4) (by decide) h5
        rw [show some (Value.int k) = some (Value.int (nI q)) by rw [ekq], enq]
        obtain ⟨m, hm, ekm, enm⟩ := in_get (n := 12) (by decide) ⟨Int32.not_lt.mp h9, h15⟩
        rw [show some (Value.int n) = some (Value.int (nI m)) by rw [ekm], enm]
        refine x_aload_n 23 0 (ab_dd tk_s_rows 11 rfl) rfl rfl rfl ?_
        refine t_callV 26 M_s_rowsNow 3 0 [] (ab_dd tk_s_rows 12 rfl) rfl (by first | decide | omega) K_s_rowsNow V_s_rowsNow.1 V_s_rowsNow.2 L_s_293 rfl (Nat.le_of_ble_eq_true rfl) (by decide) (Nat.lt_of_lt_of_le (by decide) hx.1) (hx.2.1 0 (by decide)) rfl (b_s_rowsNow h ht (by omega)) (fun v1 w1 h1 => ?_)
        obtain ⟨S1, s1, r, N, k1, rs, rfl, rfl, hF1, hG1, hB1, hn1, hR1, hN1⟩ := h1
        have hB1c := hB1
        obtain ⟨hx1, hse1, kc1, -, -, -, ⟨-, -, hcl1, -⟩, -⟩ := hB1c
        have hR1c := hR1
        obtain ⟨-, hi1, hb1, hO1, -, -, -, -, hI1, -⟩ := hR1c
        have hA1 := gA.rows h hF1 hG1 hR1
        have hr1 := hO1.1
        refine x_iload_n 27 1 (ab_dd tk_s_rows 13 rfl) rfl rfl rfl ?_
        refine x_iload_n 28 2 (ab_dd tk_s_rows 14 rfl) rfl rfl rfl ?_
        refine t_callV 31 M_ro_howManyWarm 5 2 [_, _] (ab_dd tk_s_rows 15 rfl) rfl (by first | decide | omega) K_ro_howManyWarm V_ro_howManyWarm.1 V_ro_howManyWarm.2 L_s_309 rfl (Nat.le_of_ble_eq_true rfl) (Nat.le_trans (by decide) hr1) (Nat.lt_of_le_of_lt (Nat.le_add_right r 7) hO1.2.1) hO1.2.2.1 rfl (c_ro_howManyWarm hx1 hse1 kc1 him (Or.inl rfl) hcl1 ha hO1 hi1 hb1 hI1 hT q m (by omega) hm) (fun v1 w1 h1 => ?_)
        obtain ⟨S2, k2, rfl, rfl, hE2, hcl2, hI2, e9, e14, -⟩ := h1
        obtain ⟨hB2, hR2, hF2, hG2⟩ := hB1.rgo hR1 hE2 (fun y hy => by simp only [List.mem_cons, List.not_mem_nil, or_false] at hy; omega) hcl2 hI2 e9 e14
        exact x_lret (ab_dd tk_s_rows 16 rfl) ⟨_, ⟨rfl, S2, a, s1, st2, rfl, hF1.tr hF2, hA1.tr hG2, hB2.up (by omega), hn1.eq hE2 (by simp only [List.mem_cons, List.not_mem_nil, or_false, not_or]; omega)⟩, Or.inr ⟨by first | exact hkn | (rw [← ekq, ← ekm]; exact hkn), rfl⟩⟩
      · refine x_ldc2 21 (ab_dd tk_s_rows 9 rfl) rfl C_s_307 ?_
        exact x_lret (ab_dd tk_s_rows 10 rfl) ⟨-3, ⟨rfl, S, b, st, st2, rfl, fAs.rf, gA.rf, h.up (by omega), ht⟩, Or.inl ⟨fun z => h15 z.2.2, rfl⟩⟩
def tb_s_soonest : List (Nat × Instr × Nat) := [(0, .iload_n 1, 1), (1, .i2l, 1), (2, .invokestatic 283, 3), (5, .ifCond .ne 6, 3), (8, .bipush (-3), 2), (10, .ireturn, 1), (11, .aload_n 0, 1), (12, .invokevirtual 293, 3), (15, .astore_n 2, 1), (16, .aload_n 2, 1), (17, .aload_n 2, 1), (18, .iload_n 1, 1), (19, .invokevirtual 297, 3), (22, .invokevirtual 301, 3), (25, .ireturn, 1)]
theorem tk_s_soonest : ∀ q ∈ tb_s_soonest, decode M_s_soonest.2.1 q.1 = .ok q.2 := by decide +kernel
theorem p_s_soonest {G : ab_G} {S : ab_S} {im : Nat → Prop} {a b : Nat → Int32} {c bh nb st st2 u : Nat} (h : kBd S im a c b bh nb st st2 u) (ht : sdE S 55 (rowT a)) (hu : u + 64 < 2 ^ 20) {T : Nat} (hT : (cL a T).length = T) (k : Int32) : ab_C G 7 M_s_soonest [.ref 50, .int k] (sw S) (fun v w' => ∃ v0, pAs S im a c bh nb u 0 0 (some (.int v0)) v w' ∧ ((¬ (0 ≤ k ∧ k ≤ 4) ∧ v0 = -3) ∨ ((0 ≤ k ∧ k ≤ 4) ∧ fstM (fun m => m < gFAR ∧ pth (gI a T) (gW a T (cN k)) m 0) v0))) := by
  refine x_enter [some (.ref 50), some (.int k), none] (by decide) (Nat.le_of_ble_eq_true rfl) rfl (fun v w' h => by obtain ⟨v0, ⟨rfl, -⟩, -⟩ := h; rfl) ?_
  have hbh := h.bh.1
  have h0 := h
  obtain ⟨hx, hse, kc, ⟨him, hil, h145⟩, ha, hc, ⟨hb1, hb2, hcl, hnb⟩, hcl9, -, hid, -, hu1, hu2⟩ := h0
  have h40 : sI S 55 3 = a 40 := ht.2.2.2.1.trans ha.1.m40.1.symm
  refine x_iload_n 1 1 (ab_dd tk_s_soonest 0 rfl) rfl rfl rfl ?_
  refine x_i2l 2 (ab_dd tk_s_soonest 1 rfl) rfl ?_
  refine x_callS 5 M_s_isWarmth 0 1 [_] (ab_dd tk_s_soonest 2 rfl) rfl (by first | decide | omega) K_s_isWarmth T_s_isWarmth L_s_283 rfl (Nat.le_of_ble_eq_true rfl) (cx_isWarmth k) (fun v1 w1 h1 => ?_)
  obtain ⟨rfl, rfl⟩ := h1
  refine xb_if_ne 8 11 (ab_dd tk_s_soonest 3 rfl) rfl (by decide) (fun h5 => ?_) (fun h5 => ?_)
  · have hkn := h5
    obtain ⟨q, hq, ekq, enq⟩ := in_get (n := 4) (by decide) h5
    rw [show some (Value.int k) = some (Value.int (nI q)) by rw [ekq], enq]
    refine x_aload_n 12 0 (ab_dd tk_s_soonest 6 rfl) rfl rfl rfl ?_
    refine t_callV 15 M_s_rowsNow 3 0 [] (ab_dd tk_s_soonest 7 rfl) rfl (by first | decide | omega) K_s_rowsNow V_s_rowsNow.1 V_s_rowsNow.2 L_s_293 rfl (Nat.le_of_ble_eq_true rfl) (by decide) (Nat.lt_of_lt_of_le (by decide) hx.1) (hx.2.1 0 (by decide)) rfl (b_s_rowsNow h ht (by omega)) (fun v1 w1 h1 => ?_)
    obtain ⟨S1, s1, r, N, k1, rs, rfl, rfl, hF1, hG1, hB1, hn1, hR1, hN1⟩ := h1
    have hB1c := hB1
    obtain ⟨hx1, hse1, kc1, -, -, -, ⟨-, -, hcl1, -⟩, -⟩ := hB1c
    have hR1c := hR1
    obtain ⟨-, hi1, hb1, hO1, -, -, -, -, hI1, -⟩ := hR1c
    have hA1 := gA.rows h hF1 hG1 hR1
    have hr1 := hO1.1
    refine x_astore_n 16 [some (.ref 50), some (.int (nI q)), some (.ref r)] 2 (ab_dd tk_s_soonest 8 rfl) rfl rfl (by decide) rfl ?_
    refine x_aload_n 17 2 (ab_dd tk_s_soonest 9 rfl) rfl rfl rfl ?_
    refine x_aload_n 18 2 (ab_dd tk_s_soonest 10 rfl) rfl rfl rfl ?_
    refine x_iload_n 19 1 (ab_dd tk_s_soonest 11 rfl) rfl rfl rfl ?_
    refine t_callV 22 M_ro_firstWarm 5 1 [_] (ab_dd tk_s_soonest 12 rfl) rfl (by first | decide | omega) K_ro_firstWarm V_ro_firstWarm.1 V_ro_firstWarm.2 L_s_297 rfl (Nat.le_of_ble_eq_true rfl) (Nat.le_trans (by decide) hr1) (Nat.lt_of_le_of_lt (Nat.le_add_right r 7) hO1.2.1) hO1.2.2.1 rfl (c_ro_firstWarm hx1 hse1 kc1 him (Or.inl rfl) hcl1 ha hO1 hi1 hb1 hI1 q (by omega)) (fun v1 w1 h1 => ?_)
    obtain ⟨S2, k2, v0, rfl, rfl, hE2, hcl2, hI2, e9, e14, -, hV⟩ := h1
    obtain ⟨hB2, hR2, hF2, hG2⟩ := hB1.rgo hR1 hE2 (fun y hy => by simp only [List.mem_cons, List.not_mem_nil, or_false] at hy; omega) hcl2 hI2 e9 e14
    have hx2 : xSh S2 := hB2.1
    have hO2 : roK S2 r N := hR2.2.2.2.1
    have hlen : (cL a k2).length ≤ N := nd_len (bfB_nd k2) (fun c hc => Nat.lt_of_lt_of_le (cL_all ha.1 k2 c hc) hI2.2.2.2.2.2.2.2.2)
    have hp0 : 0 < (cL a k2).length := (bfB_pos k2).1
    have hlT : (cL a k2).length ≤ T := by have := (cL_pre hT hI2.2.1).len; omega
    have hBT := bfT_c ha.1 hT
    rcases hV with ⟨t, rfl, t1, t2, t3, t4⟩ | ⟨rfl, t1, t2⟩
    · skip
      refine t_callV 25 M_ro_stopsTo 0 1 [_] (ab_dd tk_s_soonest 13 rfl) rfl (by first | decide | omega) K_ro_stopsTo V_ro_stopsTo.1 V_ro_stopsTo.2 L_s_301 rfl (Nat.le_of_ble_eq_true rfl) (Nat.le_trans (by decide) hr1) (Nat.lt_of_le_of_lt (Nat.le_add_right r 7) hO2.2.1) hO2.2.2.1 rfl (c_ro_stopsTo hO2 hlen (by omega) hI2.2.2.2.2.2.2.1.1 (roF_c hT hI2.2.1 hI2.2.2.2.2.2.2.1) hBT.2.2.2.2.2.1 (fun i i1 i2 => hBT.2.2.2.2.2.2 i i1 (by omega)) t t1) (fun v1 w1 h1 => ?_)
      obtain ⟨rfl, rfl⟩ := h1
      exact x_iret (ab_dd tk_s_soonest 14 rfl) ⟨_, ⟨rfl, S2, a, s1, st2, rfl, hF1.tr hF2, hA1.tr hG2, hB2.up (by omega), hn1.eq hE2 (by simp only [List.mem_cons, List.not_mem_nil, or_false, not_or]; omega)⟩, Or.inr ⟨by first | exact hkn | (rw [← ekq]; exact hkn), soon_c ha.1 hT hI2.2.1 t1 t3 t4⟩⟩
    · skip
      refine t_callV 25 M_ro_stopsTo 0 1 [_] (ab_dd tk_s_soonest 13 rfl) rfl (by first | decide | omega) K_ro_stopsTo V_ro_stopsTo.1 V_ro_stopsTo.2 L_s_301 rfl (Nat.le_of_ble_eq_true rfl) (Nat.le_trans (by decide) hr1) (Nat.lt_of_le_of_lt (Nat.le_add_right r 7) hO2.2.1) hO2.2.2.1 rfl (c_ro_stopsToN hO2) (fun v1 w1 h1 => ?_)
      obtain ⟨rfl, rfl⟩ := h1
      exact x_iret (ab_dd tk_s_soonest 14 rfl) ⟨_, ⟨rfl, S2, a, s1, st2, rfl, hF1.tr hF2, hA1.tr hG2, hB2.up (by omega), hn1.eq hE2 (by simp only [List.mem_cons, List.not_mem_nil, or_false, not_or]; omega)⟩, Or.inr ⟨by first | exact hkn | (rw [← ekq]; exact hkn), soon_n ha.1 hT t1 t2⟩⟩
  · refine x_bipush 10 (-3) (ab_dd tk_s_soonest 4 rfl) rfl (by decide) ?_
    exact x_iret (ab_dd tk_s_soonest 5 rfl) ⟨-3, ⟨rfl, S, b, st, st2, rfl, fAs.rf, gA.rf, h.up (by omega), ht⟩, Or.inl ⟨h5, rfl⟩⟩
