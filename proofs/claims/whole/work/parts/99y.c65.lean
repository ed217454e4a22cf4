/-! ===== trays ===== -/
theorem cut_s {w : Nat} (hw : w < 5) (s : Int32) : mCut (lN w) s = lN w := by
  have h : ∀ w, w < 5 → (lN w).toInt32.toInt8.toInt32.toInt64 = lN w ∧ (lN w).toInt32.toInt16.toInt32.toInt64 = lN w ∧ (lN w).toInt32.toInt64 = lN w := by decide +kernel
  obtain ⟨h1, h2, h3⟩ := h w hw
  unfold mCut
  repeat' split
  all_goals first | exact h1 | exact h2 | exact h3 | rfl
def tb_s_numbers : List (Nat × Instr × Nat) := [(0, .aload_n 0, 1), (1, .iload_n 1, 1), (2, .invokevirtual 209, 3), (5, .astore 4, 2), (7, .aload 4, 2), (9, .ifnull 12, 3), (12, .iload_n 2, 1), (13, .ifCond .lt 8, 3), (16, .iload_n 2, 1), (17, .iconst 3, 1), (18, .if_icmp .le 6, 3), (21, .bipush (-2), 2), (23, .ireturn, 1), (24, .iload_n 3, 1), (25, .ifCond .lt 9, 3), (28, .iload_n 3, 1), (29, .bipush 40, 2), (31, .if_icmp .le 6, 3), (34, .bipush (-3), 2), (36, .ireturn, 1), (37, .aload 4, 2), (39, .iload_n 2, 1), (40, .iload_n 3, 1), (41, .invokevirtual 417, 3), (44, .iconst 0, 1), (45, .ireturn, 1)]
theorem tk_s_numbers : ∀ q ∈ tb_s_numbers, decode M_s_numbers.2.1 q.1 = .ok q.2 := by decide +kernel
theorem p_s_numbers {G : ab_G} {S : ab_S} {im : Nat → Prop} {a b : Nat → Int32} {c bh nb st st2 u : Nat} (h : kBd S im a c b bh nb st st2 u) (ht : sdE S 55 (rowT a)) (hu : u + 64 < 2 ^ 20) (e g k : Int32) : ab_C G 7 M_s_numbers [.ref 50, .int e, .int g, .int k] (sw S) (fun v w' => (¬ ((0 ≤ e ∧ e ≤ 3) ∧ (0 ≤ g ∧ g ≤ 3)) ∧ pAs S im a c bh nb u 0 0 (some (.int (-2))) v w') ∨ (((0 ≤ e ∧ e ≤ 3) ∧ (0 ≤ g ∧ g ≤ 3)) ∧ ¬ (0 ≤ k ∧ k ≤ 40) ∧ pAs S im a c bh nb u 0 0 (some (.int (-3))) v w') ∨ (((0 ≤ e ∧ e ≤ 3) ∧ (0 ≤ g ∧ g ≤ 3)) ∧ (0 ≤ k ∧ k ≤ 40) ∧ v = some (.int 0) ∧ ∃ S', w' = sw S' ∧ sEq [109 + 2 * cN e, 110 + 2 * cN e] S S' ∧ sI S' (109 + 2 * cN e) 1 = g ∧ sI S' (109 + 2 * cN e) 2 = k ∧ (∀ i, i < 40 → sJ S' (110 + 2 * cN e) i = 0) ∧ kBd S' im a c b bh nb st st2 u ∧ sdE S' 55 (rowT a))) := by
  refine x_enter [some (.ref 50), some (.int e), some (.int g), some (.int k), none] (by decide) (Nat.le_of_ble_eq_true rfl) rfl (fun v w' h => by rcases h with ⟨-, rfl, -⟩ | ⟨-, -, rfl, -⟩ | ⟨-, -, rfl, -⟩ <;> rfl) ?_
  have hbh := h.bh.1
  have h0 := h
  obtain ⟨hx, hse, kc, ⟨him, hil, h145⟩, ha, hc, ⟨hb1, hb2, hcl, hnb⟩, hcl9, -, hid, -, hu1, hu2⟩ := h0
  have h40 : sI S 55 3 = a 40 := ht.2.2.2.1.trans ha.1.m40.1.symm
  by_cases hdd : 0 ≤ e ∧ e ≤ 3
  · obtain ⟨q, hq, ekq, enq⟩ := in_get (n := 3) (by decide) hdd
    rw [show some (Value.int e) = some (Value.int (nI q)) by rw [ekq], enq]
    refine x_aload_n 1 0 (ab_dd tk_s_numbers 0 rfl) rfl rfl rfl ?_
    refine x_iload_n 2 1 (ab_dd tk_s_numbers 1 rfl) rfl rfl rfl ?_
    refine t_callV 5 M_s_trayAt 0 1 [_] (ab_dd tk_s_numbers 2 rfl) rfl (by first | decide | omega) K_s_trayAt V_s_trayAt.1 V_s_trayAt.2 L_s_209 rfl (Nat.le_of_ble_eq_true rfl) (by decide) (Nat.lt_of_lt_of_le (by decide) hx.1) (hx.2.1 0 (by decide)) rfl (c_s_trayAt hx q (by omega)) (fun v1 w1 h1 => ?_)
    obtain ⟨rfl, rfl⟩ := h1
    refine x_astore 7 [some (.ref 50), some (.int (nI q)), some (.int g), some (.int k), some (.ref (109 + 2 * q))] 4 (ab_dd tk_s_numbers 3 rfl) rfl (by decide) rfl ?_
    refine x_aload 9 4 (ab_dd tk_s_numbers 4 rfl) rfl rfl ?_
    refine x_ifnull_f 12 (ab_dd tk_s_numbers 5 rfl) rfl ?_
    refine x_iload_n 13 2 (ab_dd tk_s_numbers 6 rfl) rfl rfl rfl ?_
    refine x_if_lt 16 21 (ab_dd tk_s_numbers 7 rfl) rfl (by decide) (fun h13 => ?_) (fun h13 => ?_)
    · refine x_bipush 23 (-2) (ab_dd tk_s_numbers 11 rfl) rfl (by decide) ?_
      exact x_iret (ab_dd tk_s_numbers 12 rfl) (Or.inl ⟨fun z => absurd h13 (Int32.not_lt.mpr z.2.1), ⟨rfl, S, b, st, st2, rfl, fAs.rf, gA.rf, h.up (by omega), ht⟩⟩)
    · refine x_iload_n 17 2 (ab_dd tk_s_numbers 8 rfl) rfl rfl rfl ?_
      refine x_iconst 18 3 (ab_dd tk_s_numbers 9 rfl) rfl (by decide) (x_topn 3 rfl ?_)
      refine x_icmp_le 21 24 (ab_dd tk_s_numbers 10 rfl) rfl (by decide) (fun h18 => ?_) (fun h18 => ?_)
      · refine x_iload_n 25 3 (ab_dd tk_s_numbers 13 rfl) rfl rfl rfl ?_
        refine x_if_lt 28 34 (ab_dd tk_s_numbers 14 rfl) rfl (by decide) (fun h25 => ?_) (fun h25 => ?_)
        · refine x_bipush 36 (-3) (ab_dd tk_s_numbers 18 rfl) rfl (by decide) ?_
          exact x_iret (ab_dd tk_s_numbers 19 rfl) (Or.inr (Or.inl ⟨⟨hdd, Int32.not_lt.mp h13, h18⟩, fun z => absurd h25 (Int32.not_lt.mpr z.1), ⟨rfl, S, b, st, st2, rfl, fAs.rf, gA.rf, h.up (by omega), ht⟩⟩))
        · refine x_iload_n 29 3 (ab_dd tk_s_numbers 15 rfl) rfl rfl rfl ?_
          refine x_bipush 31 40 (ab_dd tk_s_numbers 16 rfl) rfl (by decide) (x_topn 40 rfl ?_)
          refine x_icmp_le 34 37 (ab_dd tk_s_numbers 17 rfl) rfl (by decide) (fun h31 => ?_) (fun h31 => ?_)
          · refine x_aload 39 4 (ab_dd tk_s_numbers 20 rfl) rfl rfl ?_
            refine x_iload_n 40 2 (ab_dd tk_s_numbers 21 rfl) rfl rfl rfl ?_
            refine x_iload_n 41 3 (ab_dd tk_s_numbers 22 rfl) rfl rfl rfl ?_
            refine t_callV 44 M_ty_make 1 2 [_, _] (ab_dd tk_s_numbers 23 rfl) rfl (by first | decide | omega) K_ty_make V_ty_make.1 V_ty_make.2 L_s_417 rfl (Nat.le_of_ble_eq_true rfl) (by omega) (Nat.lt_of_lt_of_le (show (109 + 2 * q) < 120 by omega) hx.1) (x_109 hx (by omega)) rfl (c_ty_make hx (by omega) g k) (fun v1 w1 h1 => ?_)
            obtain ⟨rfl, S1, rfl, hE1, m1, m2, m3⟩ := h1
            have hB1 := h.se hE1 (fun y hy => by simp only [List.mem_cons, List.not_mem_nil, or_false] at hy; omega)
            have hx1 : xSh S1 := hB1.1
            refine x_iconst 45 0 (ab_dd tk_s_numbers 24 rfl) rfl (by decide) (x_topn 0 rfl ?_)
            exact x_iret (ab_dd tk_s_numbers 25 rfl) (Or.inr (Or.inr ⟨⟨hdd, Int32.not_lt.mp h13, h18⟩, ⟨Int32.not_lt.mp h25, h31⟩, rfl, S1, rfl, hE1, m1, m2, m3, hB1, ht.eq hE1 (by simp only [List.mem_cons, List.not_mem_nil, or_false, not_or]; omega)⟩))
          · refine x_bipush 36 (-3) (ab_dd tk_s_numbers 18 rfl) rfl (by decide) ?_
            exact x_iret (ab_dd tk_s_numbers 19 rfl) (Or.inr (Or.inl ⟨⟨hdd, Int32.not_lt.mp h13, h18⟩, fun z => h31 z.2, ⟨rfl, S, b, st, st2, rfl, fAs.rf, gA.rf, h.up (by omega), ht⟩⟩))
      · refine x_bipush 23 (-2) (ab_dd tk_s_numbers 11 rfl) rfl (by decide) ?_
        exact x_iret (ab_dd tk_s_numbers 12 rfl) (Or.inl ⟨fun z => h18 z.2.2, ⟨rfl, S, b, st, st2, rfl, fAs.rf, gA.rf, h.up (by omega), ht⟩⟩)
  · refine x_aload_n 1 0 (ab_dd tk_s_numbers 0 rfl) rfl rfl rfl ?_
    refine x_iload_n 2 1 (ab_dd tk_s_numbers 1 rfl) rfl rfl rfl ?_
    refine t_callV 5 M_s_trayAt 0 1 [_] (ab_dd tk_s_numbers 2 rfl) rfl (by first | decide | omega) K_s_trayAt V_s_trayAt.1 V_s_trayAt.2 L_s_209 rfl (Nat.le_of_ble_eq_true rfl) (by decide) (Nat.lt_of_lt_of_le (by decide) hx.1) (hx.2.1 0 (by decide)) rfl (c_s_trayAtN hx e hdd) (fun v1 w1 h1 => ?_)
    obtain ⟨rfl, rfl⟩ := h1
    refine x_astoreN 7 [some (.ref 50), some (.int e), some (.int g), some (.int k), some (.null)] 4 (ab_dd tk_s_numbers 3 rfl) rfl (by decide) rfl ?_
    refine x_aloadN 9 4 (ab_dd tk_s_numbers 4 rfl) rfl rfl ?_
    refine x_ifnull_t 21 (ab_dd tk_s_numbers 5 rfl) (by decide) ?_
    refine x_bipush 23 (-2) (ab_dd tk_s_numbers 11 rfl) rfl (by decide) ?_
    exact x_iret (ab_dd tk_s_numbers 12 rfl) (Or.inl ⟨fun z => hdd z.1, ⟨rfl, S, b, st, st2, rfl, fAs.rf, gA.rf, h.up (by omega), ht⟩⟩)
def tb_s_write : List (Nat × Instr × Nat) := [(0, .aload_n 0, 1), (1, .iload_n 1, 1), (2, .invokevirtual 209, 3), (5, .astore 5, 2), (7, .aload 5, 2), (9, .ifnonnull 7, 3), (12, .ldc2_w 420, 3), (15, .lreturn, 1), (16, .aload 5, 2), (18, .invokevirtual 213, 3), (21, .ifCond .eq 7, 3), (24, .ldc2_w 422, 3), (27, .lreturn, 1), (28, .iload_n 2, 1), (29, .ifCond .lt 12, 3), (32, .iload_n 2, 1), (33, .aload 5, 2), (35, .getfield 224, 3), (38, .if_icmp .lt 7, 3), (41, .ldc2_w 424, 3), (44, .lreturn, 1), (45, .aload 5, 2), (47, .iload_n 2, 1), (48, .lload_n 3, 1), (49, .invokevirtual 426, 3), (52, .aload 5, 2), (54, .iload_n 2, 1), (55, .invokevirtual 225, 3), (58, .lreturn, 1)]
theorem tk_s_write : ∀ q ∈ tb_s_write, decode M_s_write.2.1 q.1 = .ok q.2 := by decide +kernel
theorem p_s_write {G : ab_G} {S : ab_S} {im : Nat → Prop} {a b : Nat → Int32} {c bh nb st st2 u : Nat} (h : kBd S im a c b bh nb st st2 u) (ht : sdE S 55 (rowT a)) (hu : u + 64 < 2 ^ 20) (hT : ∀ t, t < 4 → sI S (109 + 2 * t) 2 = -1 ∨ ∃ m, m ≤ 40 ∧ sI S (109 + 2 * t) 2 = nI m) (e i : Int32) (x : Int64) : ab_C G 7 M_s_write [.ref 50, .int e, .int i, .long x] (sw S) (fun v w' => (¬ (0 ≤ e ∧ e ≤ 3) ∧ pAs S im a c bh nb u 0 0 (some (.long (-2))) v w') ∨ ((0 ≤ e ∧ e ≤ 3) ∧ sI S (109 + 2 * cN e) 2 = -1 ∧ pAs S im a c bh nb u 0 0 (some (.long (-6))) v w') ∨ ((0 ≤ e ∧ e ≤ 3) ∧ ∃ m, m ≤ 40 ∧ sI S (109 + 2 * cN e) 2 = nI m ∧ ((¬ (0 ≤ i ∧ cN i < m) ∧ pAs S im a c bh nb u 0 0 (some (.long (-7))) v w') ∨ ((0 ≤ i ∧ cN i < m) ∧ v = some (.long (mCut x (sI S (109 + 2 * cN e) 1))) ∧ ∃ S', w' = sw S' ∧ sEq [110 + 2 * cN e] S S' ∧ sJ S' (110 + 2 * cN e) = up1 (sJ S (110 + 2 * cN e)) (cN i) (mCut x (sI S (109 + 2 * cN e) 1)) ∧ kBd S' im a c b bh nb st st2 u ∧ sdE S' 55 (rowT a))))) := by
  refine x_enter [some (.ref 50), some (.int e), some (.int i), some (.long x), none, none] (by decide) (Nat.le_of_ble_eq_true rfl) rfl (fun v w' h => by rcases h with ⟨-, rfl, -⟩ | ⟨-, -, rfl, -⟩ | ⟨-, m, -, -, ⟨-, rfl, -⟩ | ⟨-, rfl, -⟩⟩ <;> trivial) ?_
  have hbh := h.bh.1
  have h0 := h
  obtain ⟨hx, hse, kc, ⟨him, hil, h145⟩, ha, hc, ⟨hb1, hb2, hcl, hnb⟩, hcl9, -, hid, -, hu1, hu2⟩ := h0
  have h40 : sI S 55 3 = a 40 := ht.2.2.2.1.trans ha.1.m40.1.symm
  by_cases hdd : 0 ≤ e ∧ e ≤ 3
  · obtain ⟨q, hq, ekq, enq⟩ := in_get (n := 3) (by decide) hdd
    rw [show some (Value.int e) = some (Value.int (nI q)) by rw [ekq], enq]
    rcases hT q (by omega) with hm | ⟨m, hm40, hm⟩
    · refine x_aload_n 1 0 (ab_dd tk_s_write 0 rfl) rfl rfl rfl ?_
      refine x_iload_n 2 1 (ab_dd tk_s_write 1 rfl) rfl rfl rfl ?_
      refine t_callV 5 M_s_trayAt 0 1 [_] (ab_dd tk_s_write 2 rfl) rfl (by first | decide | omega) K_s_trayAt V_s_trayAt.1 V_s_trayAt.2 L_s_209 rfl (Nat.le_of_ble_eq_true rfl) (by decide) (Nat.lt_of_lt_of_le (by decide) hx.1) (hx.2.1 0 (by decide)) rfl (c_s_trayAt hx q (by omega)) (fun v1 w1 h1 => ?_)
      obtain ⟨rfl, rfl⟩ := h1
      refine x_astore 7 [some (.ref 50), some (.int (nI q)), some (.int i), some (.long x), none, some (.ref (109 + 2 * q))] 5 (ab_dd tk_s_write 3 rfl) rfl (by decide) rfl ?_
      refine x_aload 9 5 (ab_dd tk_s_write 4 rfl) rfl rfl ?_
      refine x_ifnonnull_t 16 (ab_dd tk_s_write 5 rfl) (by decide) ?_
      refine x_aload 18 5 (ab_dd tk_s_write 8 rfl) rfl rfl ?_
      refine t_callV 21 M_ty_isMissing 0 0 [] (ab_dd tk_s_write 9 rfl) rfl (by first | decide | omega) K_ty_isMissing V_ty_isMissing.1 V_ty_isMissing.2 L_s_213 rfl (Nat.le_of_ble_eq_true rfl) (by omega) (Nat.lt_of_lt_of_le (show (109 + 2 * q) < 120 by omega) hx.1) (x_109 hx (by omega)) rfl (c_ty_isMissing hx (by omega) (-1) hm) (fun v1 w1 h1 => ?_)
      obtain ⟨rfl, rfl⟩ := h1
      refine x_if_eq_f 24 (ab_dd tk_s_write 10 rfl) rfl 28 (by decide) (by decide) ?_
      refine x_ldc2 27 (ab_dd tk_s_write 11 rfl) rfl C_s_422 ?_
      exact x_lret (ab_dd tk_s_write 12 rfl) (Or.inr (Or.inl ⟨hdd, hm, ⟨rfl, S, b, st, st2, rfl, fAs.rf, gA.rf, h.up (by omega), ht⟩⟩))
    · refine x_aload_n 1 0 (ab_dd tk_s_write 0 rfl) rfl rfl rfl ?_
      refine x_iload_n 2 1 (ab_dd tk_s_write 1 rfl) rfl rfl rfl ?_
      refine t_callV 5 M_s_trayAt 0 1 [_] (ab_dd tk_s_write 2 rfl) rfl (by first | decide | omega) K_s_trayAt V_s_trayAt.1 V_s_trayAt.2 L_s_209 rfl (Nat.le_of_ble_eq_true rfl) (by decide) (Nat.lt_of_lt_of_le (by decide) hx.1) (hx.2.1 0 (by decide)) rfl (c_s_trayAt hx q (by omega)) (fun v1 w1 h1 => ?_)
      obtain ⟨rfl, rfl⟩ := h1
      refine x_astore 7 [some (.ref 50), some (.int (nI q)), some (.int i), some (.long x), none, some (.ref (109 + 2 * q))] 5 (ab_dd tk_s_write 3 rfl) rfl (by decide) rfl ?_
      refine x_aload 9 5 (ab_dd tk_s_write 4 rfl) rfl rfl ?_
      refine x_ifnonnull_t 16 (ab_dd tk_s_write 5 rfl) (by decide) ?_
      refine x_aload 18 5 (ab_dd tk_s_write 8 rfl) rfl rfl ?_
      refine t_callV 21 M_ty_isMissing 0 0 [] (ab_dd tk_s_write 9 rfl) rfl (by first | decide | omega) K_ty_isMissing V_ty_isMissing.1 V_ty_isMissing.2 L_s_213 rfl (Nat.le_of_ble_eq_true rfl) (by omega) (Nat.lt_of_lt_of_le (show (109 + 2 * q) < 120 by omega) hx.1) (x_109 hx (by omega)) rfl (c_ty_isMissing hx (by omega) (nI m) hm) (fun v1 w1 h1 => ?_)
      obtain ⟨rfl, rfl⟩ := h1
      refine x_if_eq_t 28 (ab_dd tk_s_write 10 rfl) (by decide) (if_neg (nI_nn m (by omega))) ?_
      refine x_iload_n 29 2 (ab_dd tk_s_write 13 rfl) rfl rfl rfl ?_
      refine x_if_lt 32 41 (ab_dd tk_s_write 14 rfl) rfl (by decide) (fun h29 => ?_) (fun h29 => ?_)
      · refine x_ldc2 44 (ab_dd tk_s_write 19 rfl) rfl C_s_424 ?_
        exact x_lret (ab_dd tk_s_write 20 rfl) (Or.inr (Or.inr ⟨hdd, m, hm40, hm, Or.inl ⟨fun z => absurd h29 (Int32.not_lt.mpr z.1), ⟨rfl, S, b, st, st2, rfl, fAs.rf, gA.rf, h.up (by omega), ht⟩⟩⟩))
      · obtain ⟨j, ekj, enj⟩ : ∃ j, i = nI j ∧ cN i = j := ⟨cN i, nI_cN (Int32.not_lt.mp h29), rfl⟩
        have hj31 : j < 2 ^ 31 := by rw [← enj]; exact cN_31 i
        have hi0 := Int32.not_lt.mp h29
        rw [show some (Value.int i) = some (Value.int (nI j)) by rw [ekj], enj]
        refine x_iload_n 33 2 (ab_dd tk_s_write 15 rfl) rfl rfl rfl ?_
        refine x_aload 35 5 (ab_dd tk_s_write 16 rfl) rfl rfl ?_
        refine t_getI 38 (ab_dd tk_s_write 17 rfl) rfl F_s_224 (by omega) (Nat.lt_of_lt_of_le (show (109 + 2 * q) < 120 by omega) hx.1) (x_109 hx (by omega)) rfl (x_topn m hm ?_)
        refine xn_icmp_lt 41 45 (ab_dd tk_s_write 18 rfl) rfl (by decide) (by omega) (by omega) (fun h38 => ?_) (fun h38 => ?_)
        · refine x_aload 47 5 (ab_dd tk_s_write 21 rfl) rfl rfl ?_
          refine x_iload_n 48 2 (ab_dd tk_s_write 22 rfl) rfl rfl rfl ?_
          refine x_lload_n 49 3 (ab_dd tk_s_write 23 rfl) rfl rfl rfl ?_
          refine t_callV 52 M_ty_put 0 2 [_, _] (ab_dd tk_s_write 24 rfl) rfl (by first | decide | omega) K_ty_put V_ty_put.1 V_ty_put.2 L_s_426 rfl (Nat.le_of_ble_eq_true rfl) (by omega) (Nat.lt_of_lt_of_le (show (109 + 2 * q) < 120 by omega) hx.1) (x_109 hx (by omega)) rfl (c_ty_put hx (by omega) _ rfl j (by omega) x) (fun v1 w1 h1 => ?_)
          obtain ⟨rfl, rfl⟩ := h1
          have hE1 : sEq [110 + 2 * q] S (pJ S (110 + 2 * q) j (mCut x (sI S (109 + 2 * q) 1))) := sEq.rf.pJ (List.mem_singleton.mpr rfl)
          have hB1 := h.se hE1 (fun y hy => by simp only [List.mem_cons, List.not_mem_nil, or_false] at hy; omega)
          have hx1 : xSh (pJ S (110 + 2 * q) j (mCut x (sI S (109 + 2 * q) 1))) := hB1.1
          have eup : sJ (pJ S (110 + 2 * q) j (mCut x (sI S (109 + 2 * q) 1))) (110 + 2 * q) = up1 (sJ S (110 + 2 * q)) j (mCut x (sI S (109 + 2 * q) 1)) := by
            funext k
            show up2 _ _ _ _ _ _ = _
            by_cases hk : k = j
            · rw [hk, up2_s, up1_s]
            · rw [up2_k hk, up1_o hk]
          refine x_aload 54 5 (ab_dd tk_s_write 25 rfl) rfl rfl ?_
          refine x_iload_n 55 2 (ab_dd tk_s_write 26 rfl) rfl rfl rfl ?_
          refine t_callV 58 M_ty_numberAt 0 1 [_] (ab_dd tk_s_write 27 rfl) rfl (by first | decide | omega) K_ty_numberAt V_ty_numberAt.1 V_ty_numberAt.2 L_s_225 rfl (Nat.le_of_ble_eq_true rfl) (by omega) (Nat.lt_of_lt_of_le (show (109 + 2 * q) < 120 by omega) hx1.1) (x_109 hx1 (by omega)) rfl (c_ty_numberAt hx1 (by omega) j (by omega)) (fun v1 w1 h1 => ?_)
          obtain ⟨rfl, rfl⟩ := h1
          exact x_lret (ab_dd tk_s_write 28 rfl) (Or.inr (Or.inr ⟨hdd, m, hm40, hm, Or.inr ⟨⟨by first | exact hi0 | (rw [← ekj]; exact hi0), h38⟩, congrArg (fun z => some (Value.long z)) up2_s, _, rfl, hE1, eup, hB1, ht.eq hE1 (by simp only [List.mem_cons, List.not_mem_nil, or_false, not_or]; omega)⟩⟩))
        · refine x_ldc2 44 (ab_dd tk_s_write 19 rfl) rfl C_s_424 ?_
          exact x_lret (ab_dd tk_s_write 20 rfl) (Or.inr (Or.inr ⟨hdd, m, hm40, hm, Or.inl ⟨fun z => absurd z.2 (Nat.not_lt.mpr h38), ⟨rfl, S, b, st, st2, rfl, fAs.rf, gA.rf, h.up (by omega), ht⟩⟩⟩))
  · refine x_aload_n 1 0 (ab_dd tk_s_write 0 rfl) rfl rfl rfl ?_
    refine x_iload_n 2 1 (ab_dd tk_s_write 1 rfl) rfl rfl rfl ?_
    refine t_callV 5 M_s_trayAt 0 1 [_] (ab_dd tk_s_write 2 rfl) rfl (by first | decide | omega) K_s_trayAt V_s_trayAt.1 V_s_trayAt.2 L_s_209 rfl (Nat.le_of_ble_eq_true rfl) (by decide) (Nat.lt_of_lt_of_le (by decide) hx.1) (hx.2.1 0 (by decide)) rfl (c_s_trayAtN hx e hdd) (fun v1 w1 h1 => ?_)
    obtain ⟨rfl, rfl⟩ := h1
    refine x_astoreN 7 [some (.ref 50), some (.int e), some (.int i), some (.long x), none, some (.null)] 5 (ab_dd tk_s_write 3 rfl) rfl (by decide) rfl ?_
    refine x_aloadN 9 5 (ab_dd tk_s_write 4 rfl) rfl rfl ?_
    refine x_ifnonnull_f 12 (ab_dd tk_s_write 5 rfl) rfl ?_
    refine x_ldc2 15 (ab_dd tk_s_write 6 rfl) rfl C_s_420 ?_
    exact x_lret (ab_dd tk_s_write 7 rfl) (Or.inl ⟨hdd, ⟨rfl, S, b, st, st2, rfl, fAs.rf, gA.rf, h.up (by omega), ht⟩⟩)
def tb_s_lists : List (Nat × Instr × Nat) := [(0, .aload_n 0, 1), (1, .iload_n 1, 1), (2, .invokevirtual 209, 3), (5, .astore_n 3, 1), (6, .aload_n 3, 1), (7, .ifnull 12, 3), (10, .aload_n 0, 1), (11, .iload_n 2, 1), (12, .i2l, 1), (13, .invokevirtual 130, 3), (16, .ifCond .ne 6, 3), (19, .bipush (-2), 2), (21, .ireturn, 1), (22, .aload_n 3, 1), (23, .invokevirtual 213, 3), (26, .ifCond .eq 6, 3), (29, .bipush (-6), 2), (31, .ireturn, 1), (32, .aload_n 0, 1), (33, .invokevirtual 270, 3), (36, .astore 4, 2), (38, .iconst 0, 1), (39, .istore 5, 2), (41, .iload 5, 2), (43, .aload_n 3, 1), (44, .getfield 224, 3), (47, .if_icmp .ge 29, 3), (50, .aload_n 3, 1), (51, .iload 5, 2), (53, .aload 4, 2), (55, .iload 5, 2), (57, .iconst 1, 1), (58, .iadd, 1), (59, .invokevirtual 274, 3), (62, .iload_n 2, 1), (63, .invokestatic 148, 3), (66, .i2l, 1), (67, .invokevirtual 426, 3), (70, .iinc 5 1, 3), (73, .goto (-32), 3), (76, .aload_n 3, 1), (77, .getfield 224, 3), (80, .ireturn, 1)]
theorem tk_s_lists : ∀ q ∈ tb_s_lists, decode M_s_lists.2.1 q.1 = .ok q.2 := by decide +kernel
theorem p_s_lists {G : ab_G} {S : ab_S} {im : Nat → Prop} {a b : Nat → Int32} {c bh nb st st2 u : Nat} (h : kBd S im a c b bh nb st st2 u) (ht : sdE S 55 (rowT a)) (hu : u + 64 < 2 ^ 20) (hT : ∀ t, t < 4 → sI S (109 + 2 * t) 2 = -1 ∨ ∃ m, m ≤ 40 ∧ sI S (109 + 2 * t) 2 = nI m) (e p : Int32) : ab_C G 7 M_s_lists [.ref 50, .int e, .int p] (sw S) (fun v w' => (¬ ((0 ≤ e ∧ e ≤ 3) ∧ (0 ≤ p ∧ cN p < aR a)) ∧ pAs S im a c bh nb u 0 0 (some (.int (-2))) v w') ∨ (((0 ≤ e ∧ e ≤ 3) ∧ (0 ≤ p ∧ cN p < aR a)) ∧ sI S (109 + 2 * cN e) 2 = -1 ∧ pAs S im a c bh nb u 0 0 (some (.int (-6))) v w') ∨ (((0 ≤ e ∧ e ≤ 3) ∧ (0 ≤ p ∧ cN p < aR a)) ∧ ∃ m, m ≤ 40 ∧ sI S (109 + 2 * cN e) 2 = nI m ∧ v = some (.int (nI m)) ∧ ∃ S' st', w' = sw S' ∧ sEq [84, 89, 91, 92, 93, bh, 104, 105, 106, 110 + 2 * cN e] S S' ∧ (∀ i, sJ S' (110 + 2 * cN e) i = if i < m then lN (mWa (aI a (a 40) (i + 1)) (cN p)) else sJ S (110 + 2 * cN e) i) ∧ kBd S' im a c a bh nb st' st2 (u + 64) ∧ sdE S' 55 (rowT a))) := by
  refine x_enter [some (.ref 50), some (.int e), some (.int p), none, none, none] (by decide) (Nat.le_of_ble_eq_true rfl) rfl (fun v w' h => by rcases h with ⟨-, rfl, -⟩ | ⟨-, -, rfl, -⟩ | ⟨-, m, -, -, rfl, -⟩ <;> rfl) ?_
  have hbh := h.bh.1
  have h0 := h
  obtain ⟨hx, hse, kc, ⟨him, hil, h145⟩, ha, hc, ⟨hb1, hb2, hcl, hnb⟩, hcl9, -, hid, -, hu1, hu2⟩ := h0
  have h40 : sI S 55 3 = a 40 := ht.2.2.2.1.trans ha.1.m40.1.symm
  have hca := hcl.1.sta hb2.sy
  obtain ⟨hk, c1, -⟩ := hca
  have hR := ha.1.R.2
  have h50 : 50 ≤ sn S := by omega
  by_cases hdd : 0 ≤ e ∧ e ≤ 3
  · obtain ⟨q, hq, ekq, enq⟩ := in_get (n := 3) (by decide) hdd
    rw [show some (Value.int e) = some (Value.int (nI q)) by rw [ekq], enq]
    rcases hT q (by omega) with hm | ⟨m, hm40, hm⟩
    · refine x_aload_n 1 0 (ab_dd tk_s_lists 0 rfl) rfl rfl rfl ?_
      refine x_iload_n 2 1 (ab_dd tk_s_lists 1 rfl) rfl rfl rfl ?_
      refine t_callV 5 M_s_trayAt 0 1 [_] (ab_dd tk_s_lists 2 rfl) rfl (by first | decide | omega) K_s_trayAt V_s_trayAt.1 V_s_trayAt.2 L_s_209 rfl (Nat.le_of_ble_eq_true rfl) (by decide) (Nat.lt_of_lt_of_le (by decide) hx.1) (hx.2.1 0 (by decide)) rfl (c_s_trayAt hx q (by omega)) (fun v1 w1 h1 => ?_)
      obtain ⟨rfl, rfl⟩ := h1
      refine x_astore_n 6 [some (.ref 50), some (.int (nI q)), some (.int p), some (.ref (109 + 2 * q)), none, none] 3 (ab_dd tk_s_lists 3 rfl) rfl rfl (by decide) rfl ?_
      refine x_aload_n 7 3 (ab_dd tk_s_lists 4 rfl) rfl rfl rfl ?_
      refine x_ifnull_f 10 (ab_dd tk_s_lists 5 rfl) rfl ?_
      refine x_aload_n 11 0 (ab_dd tk_s_lists 6 rfl) rfl rfl rfl ?_
      refine x_iload_n 12 2 (ab_dd tk_s_lists 7 rfl) rfl rfl rfl ?_
      refine x_i2l 13 (ab_dd tk_s_lists 8 rfl) rfl ?_
      refine t_callV 16 M_s_isRider 0 1 [_] (ab_dd tk_s_lists 9 rfl) rfl (by first | decide | omega) K_s_isRider V_s_isRider.1 V_s_isRider.2 L_s_130 rfl (Nat.le_of_ble_eq_true rfl) (by decide) (Nat.lt_of_lt_of_le (by decide) hx.1) (hx.2.1 0 (by decide)) rfl (cx_isRider (by exact hx) hc hk hR c1 p) (fun v1 w1 h1 => ?_)
      obtain ⟨rfl, rfl⟩ := h1
      refine xb_if_ne 19 22 (ab_dd tk_s_lists 10 rfl) rfl (by decide) (fun h16 => ?_) (fun h16 => ?_)
      · refine x_aload_n 23 3 (ab_dd tk_s_lists 13 rfl) rfl rfl rfl ?_
        refine t_callV 26 M_ty_isMissing 0 0 [] (ab_dd tk_s_lists 14 rfl) rfl (by first | decide | omega) K_ty_isMissing V_ty_isMissing.1 V_ty_isMissing.2 L_s_213 rfl (Nat.le_of_ble_eq_true rfl) (by omega) (Nat.lt_of_lt_of_le (show (109 + 2 * q) < 120 by omega) hx.1) (x_109 hx (by omega)) rfl (c_ty_isMissing hx (by omega) (-1) hm) (fun v1 w1 h1 => ?_)
        obtain ⟨rfl, rfl⟩ := h1
        refine x_if_eq_f 29 (ab_dd tk_s_lists 15 rfl) rfl 32 (by decide) (by decide) ?_
        refine x_bipush 31 (-6) (ab_dd tk_s_lists 16 rfl) rfl (by decide) ?_
        exact x_iret (ab_dd tk_s_lists 17 rfl) (Or.inr (Or.inl ⟨⟨hdd, h16⟩, hm, ⟨rfl, S, b, st, st2, rfl, fAs.rf, gA.rf, h.up (by omega), ht⟩⟩))
      · refine x_bipush 21 (-2) (ab_dd tk_s_lists 11 rfl) rfl (by decide) ?_
        exact x_iret (ab_dd tk_s_lists 12 rfl) (Or.inl ⟨fun z => h16 z.2, ⟨rfl, S, b, st, st2, rfl, fAs.rf, gA.rf, h.up (by omega), ht⟩⟩)
    · refine x_aload_n 1 0 (ab_dd tk_s_lists 0 rfl) rfl rfl rfl ?_
      refine x_iload_n 2 1 (ab_dd tk_s_lists 1 rfl) rfl rfl rfl ?_
      refine t_callV 5 M_s_trayAt 0 1 [_] (ab_dd tk_s_lists 2 rfl) rfl (by first | decide | omega) K_s_trayAt V_s_trayAt.1 V_s_trayAt.2 L_s_209 rfl (Nat.le_of_ble_eq_true rfl) (by decide) (Nat.lt_of_lt_of_le (by decide) hx.1) (hx.2.1 0 (by decide)) rfl (c_s_trayAt hx q (by omega)) (fun v1 w1 h1 => ?_)
      obtain ⟨rfl, rfl⟩ := h1
      refine x_astore_n 6 [some (.ref 50), some (.int (nI q)), some (.int p), some (.ref (109 + 2 * q)), none, none] 3 (ab_dd tk_s_lists 3 rfl) rfl rfl (by decide) rfl ?_
      refine x_aload_n 7 3 (ab_dd tk_s_lists 4 rfl) rfl rfl rfl ?_
      refine x_ifnull_f 10 (ab_dd tk_s_lists 5 rfl) rfl ?_
      refine x_aload_n 11 0 (ab_dd tk_s_lists 6 rfl) rfl rfl rfl ?_
      refine x_iload_n 12 2 (ab_dd tk_s_lists 7 rfl) rfl rfl rfl ?_
      refine x_i2l 13 (ab_dd tk_s_lists 8 rfl) rfl ?_
      refine t_callV 16 M_s_isRider 0 1 [_] (ab_dd tk_s_lists 9 rfl) rfl (by first | decide | omega) K_s_isRider V_s_isRider.1 V_s_isRider.2 L_s_130 rfl (Nat.le_of_ble_eq_true rfl) (by decide) (Nat.lt_of_lt_of_le (by decide) hx.1) (hx.2.1 0 (by decide)) rfl (cx_isRider (by exact hx) hc hk hR c1 p) (fun v1 w1 h1 => ?_)
      obtain ⟨rfl, rfl⟩ := h1
      refine xb_if_ne 19 22 (ab_dd tk_s_lists 10 rfl) rfl (by decide) (fun h16 => ?_) (fun h16 => ?_)
      · refine x_aload_n 23 3 (ab_dd tk_s_lists 13 rfl) rfl rfl rfl ?_
        refine t_callV 26 M_ty_isMissing 0 0 [] (ab_dd tk_s_lists 14 rfl) rfl (by first | decide | omega) K_ty_isMissing V_ty_isMissing.1 V_ty_isMissing.2 L_s_213 rfl (Nat.le_of_ble_eq_true rfl) (by omega) (Nat.lt_of_lt_of_le (show (109 + 2 * q) < 120 by omega) hx.1) (x_109 hx (by omega)) rfl (c_ty_isMissing hx (by omega) (nI m) hm) (fun v1 w1 h1 => ?_)
        obtain ⟨rfl, rfl⟩ := h1
        refine x_if_eq_t 32 (ab_dd tk_s_lists 15 rfl) (by decide) (if_neg (nI_nn m (by omega))) ?_
        have hpp := h16
        obtain ⟨r, ekr, enr⟩ : ∃ r, p = nI r ∧ cN p = r := ⟨cN p, nI_cN h16.1, rfl⟩
        rw [show some (Value.int p) = some (Value.int (nI r)) by rw [ekr], enr]
        have hr4 : r < 4 := by have := hpp.2; omega
        refine x_aload_n 33 0 (ab_dd tk_s_lists 18 rfl) rfl rfl rfl ?_
        refine t_callV 36 M_s_settled 5 0 [] (ab_dd tk_s_lists 19 rfl) rfl (by first | decide | omega) K_s_settled V_s_settled.1 V_s_settled.2 L_s_270 rfl (Nat.le_of_ble_eq_true rfl) (by decide) (Nat.lt_of_lt_of_le (by decide) hx.1) (hx.2.1 0 (by decide)) rfl (b_s_settled h ht (by omega)) (fun v1 w1 h1 => ?_)
        obtain ⟨rfl, S1, s1, n0, t0, rfl, hE1, hB1, hn1, f1, f2, f3, f4, f5⟩ := h1
        have hB1c := hB1
        obtain ⟨hx1, hse1, kc1, ⟨-, -, h1451⟩, -, hc1, ⟨-, -, hcl1, -⟩, -⟩ := hB1c
        have h501 : 50 ≤ sn S1 := by omega
        obtain ⟨hk1, c11, -⟩ := hcl1.1
        have hF1 : fAs im bh S S1 := fAs.of (gF.sE hE1) (by omega) (fun y _ z => by simp only [List.mem_cons, List.not_mem_nil, or_false] at z; omega) (by omega)
        have hfI : ∀ k, cI a (aW a) (aQ a) (k + 1) = (fun s => cB a s (aQ a)) (cI a (aW a) (aQ a) k) := fun _ => rfl
        have hcI : ∀ i, cI a (aW a) (aQ a) i < 625 := fun i => by have := cI_lt hR (rowT_in ha.1).1 (rowT_in ha.1).2.1 i; have := p5_6 hR; omega
        have ht0 : t0 ≤ 625 := by have := f1.1; omega
        refine x_astore 38 [some (.ref 50), some (.int (nI q)), some (.int (nI r)), some (.ref (109 + 2 * q)), some (.ref 104), none] 4 (ab_dd tk_s_lists 20 rfl) rfl (by decide) rfl ?_
        refine x_iconst 39 0 (ab_dd tk_s_lists 21 rfl) rfl (by decide) (x_topn 0 rfl ?_)
        refine x_istore 41 [some (.ref 50), some (.int (nI q)), some (.int (nI r)), some (.ref (109 + 2 * q)), some (.ref 104), some (.int (nI 0))] 5 (ab_dd tk_s_lists 22 rfl) rfl (by decide) rfl ?_
        have hm1 : sI S1 (109 + 2 * q) 2 = nI m := (congrFun (hE1.2.2.1 _ (by simp only [List.mem_cons, List.not_mem_nil, or_false, not_or]; omega)) 2).trans hm
        have loop : ∀ (t k : Nat), k + t = m → ∀ S2 : ab_S, sEq [110 + 2 * q] S1 S2 → (∀ i, sJ S2 (110 + 2 * q) i = if i < k then lN (mWa (aI a (a 40) (i + 1)) r) else sJ S (110 + 2 * q) i) → ab_Ex G 7 M_s_lists 41 [some (.ref 50), some (.int (nI q)), some (.int (nI r)), some (.ref (109 + 2 * q)), some (.ref 104), some (.int (nI k))] [] (sw S2) (fun v w' => (¬ ((0 ≤ e ∧ e ≤ 3) ∧ (0 ≤ p ∧ r < aR a)) ∧ pAs S im a c bh nb u 0 0 (some (.int (-2))) v w') ∨ (((0 ≤ e ∧ e ≤ 3) ∧ (0 ≤ p ∧ r < aR a)) ∧ sI S (109 + 2 * q) 2 = -1 ∧ pAs S im a c bh nb u 0 0 (some (.int (-6))) v w') ∨ (((0 ≤ e ∧ e ≤ 3) ∧ (0 ≤ p ∧ r < aR a)) ∧ ∃ m, m ≤ 40 ∧ sI S (109 + 2 * q) 2 = nI m ∧ v = some (.int (nI m)) ∧ ∃ S' st', w' = sw S' ∧ sEq [84, 89, 91, 92, 93, bh, 104, 105, 106, 110 + 2 * q] S S' ∧ (∀ i, sJ S' (110 + 2 * q) i = if i < m then lN (mWa (aI a (a 40) (i + 1)) r) else sJ S (110 + 2 * q) i) ∧ kBd S' im a c a bh nb st' st2 (u + 64) ∧ sdE S' 55 (rowT a))) := by
          intro t
          induction t with
          | zero =>
            intro k hk S2 hE2 hJ2
            have hkq : k = m := by omega
            rw [hkq] at hJ2 ⊢
            have hB2 := hB1.se hE2 (fun y hy => by simp only [List.mem_cons, List.not_mem_nil, or_false] at hy; omega)
            have hx2 : xSh S2 := hB2.1
            have hm2 : sI S2 (109 + 2 * q) 2 = nI m := (congrFun (hE2.2.2.1 _ (by simp only [List.mem_cons, List.not_mem_nil, or_false, not_or]; omega)) 2).trans hm1
            refine x_iload 43 5 (ab_dd tk_s_lists 23 rfl) rfl rfl ?_
            refine x_aload_n 44 3 (ab_dd tk_s_lists 24 rfl) rfl rfl rfl ?_
            refine t_getI 47 (ab_dd tk_s_lists 25 rfl) rfl F_s_224 (by omega) (Nat.lt_of_lt_of_le (show (109 + 2 * q) < 120 by omega) hx2.1) (x_109 hx2 (by omega)) rfl (x_topn m hm2 ?_)
            refine x_icmp_ge_t 76 (ab_dd tk_s_lists 26 rfl) (by decide) ((nI_leI (a := m) (b := m) (by omega) (by omega)).mpr (show m ≤ m by omega)) ?_
            refine x_aload_n 77 3 (ab_dd tk_s_lists 40 rfl) rfl rfl rfl ?_
            refine t_getI 80 (ab_dd tk_s_lists 41 rfl) rfl F_s_224 (by omega) (Nat.lt_of_lt_of_le (show (109 + 2 * q) < 120 by omega) hx2.1) (x_109 hx2 (by omega)) rfl (x_topn m hm2 ?_)
            exact x_iret (ab_dd tk_s_lists 42 rfl) (Or.inr (Or.inr ⟨⟨hdd, by first | exact hpp | (rw [← enr]; exact hpp) | (refine ⟨hpp.1, ?_⟩; rw [← enr]; exact hpp.2)⟩, m, hm40, hm, rfl, S2, s1, rfl, (hE1.mono (fun y hy => by simp only [List.mem_cons, List.not_mem_nil, or_false] at hy ⊢; omega)).tr (hE2.mono (fun y hy => by simp only [List.mem_cons, List.not_mem_nil, or_false] at hy ⊢; omega)), hJ2, hB2.up (by omega), hn1.eq hE2 (by simp only [List.mem_cons, List.not_mem_nil, or_false, not_or]; omega)⟩))
          | succ t ih =>
            intro k hk S2 hE2 hJ2
            have hB2 := hB1.se hE2 (fun y hy => by simp only [List.mem_cons, List.not_mem_nil, or_false] at hy; omega)
            have hx2 : xSh S2 := hB2.1
            have kc2 := hB2.2.2.1
            have h502 : 50 ≤ sn S2 := Nat.le_trans (by decide) hx2.1
            have hm2 : sI S2 (109 + 2 * q) 2 = nI m := (congrFun (hE2.2.2.1 _ (by simp only [List.mem_cons, List.not_mem_nil, or_false, not_or]; omega)) 2).trans hm1
            have e104 := hE2.2.2.1 104 (by simp only [List.mem_cons, List.not_mem_nil, or_false, not_or]; omega)
            have e105 := hE2.2.2.1 105 (by simp only [List.mem_cons, List.not_mem_nil, or_false, not_or]; omega)
            have hck := hcI (k + 1)
            refine x_iload 43 5 (ab_dd tk_s_lists 23 rfl) rfl rfl ?_
            refine x_aload_n 44 3 (ab_dd tk_s_lists 24 rfl) rfl rfl rfl ?_
            refine t_getI 47 (ab_dd tk_s_lists 25 rfl) rfl F_s_224 (by omega) (Nat.lt_of_lt_of_le (show (109 + 2 * q) < 120 by omega) hx2.1) (x_109 hx2 (by omega)) rfl (x_topn m hm2 ?_)
            refine x_icmp_ge_f 50 (ab_dd tk_s_lists 26 rfl) rfl 76 (by decide) (fun z => absurd ((nI_leI (a := m) (b := k) (by omega) (by omega)).mp z) (show ¬ (m ≤ k) by omega)) ?_
            refine x_aload_n 51 3 (ab_dd tk_s_lists 27 rfl) rfl rfl rfl ?_
            refine x_iload 53 5 (ab_dd tk_s_lists 28 rfl) rfl rfl ?_
            refine x_aload 55 4 (ab_dd tk_s_lists 29 rfl) rfl rfl ?_
            refine x_iload 57 5 (ab_dd tk_s_lists 30 rfl) rfl rfl ?_
            refine x_iconst 58 1 (ab_dd tk_s_lists 31 rfl) rfl (by decide) (x_topn 1 rfl ?_)
            refine x_iadd 59 (ab_dd tk_s_lists 32 rfl) rfl (x_topn (k + 1) (nI_add _ _) ?_)
            refine t_callV 62 M_id_warmBehind 0 1 [_] (ab_dd tk_s_lists 33 rfl) rfl (by first | decide | omega) K_id_warmBehind V_id_warmBehind.1 V_id_warmBehind.2 L_s_274 rfl (Nat.le_of_ble_eq_true rfl) (by decide) (Nat.lt_of_lt_of_le (by decide) hx2.1) (hx2.2.1 54 (by decide)) rfl (c_id_warmBehind (g := fun s => cB a s (aQ a)) hx2 hfI f1 f2 (by rw [e104]; exact f3) (by rw [e104]; exact f4) (by rw [e105]; exact f5) (k + 1) (by omega)) (fun v1 w1 h1 => ?_)
            obtain ⟨rfl, rfl⟩ := h1
            refine x_iload_n 63 2 (ab_dd tk_s_lists 34 rfl) rfl rfl rfl ?_
            refine x_callS 66 M_s_warmthOf 0 2 [_, _] (ab_dd tk_s_lists 35 rfl) rfl (by first | decide | omega) K_s_warmthOf T_s_warmthOf L_s_148 rfl (Nat.le_of_ble_eq_true rfl) (c_s_warmthOf kc2 h502 (cI a (aW a) (aQ a) (k + 1)) r hck hr4) (fun v1 w1 h1 => ?_)
            obtain ⟨rfl, rfl⟩ := h1
            have h5 : mWa (cI a (aW a) (aQ a) (k + 1)) r < 5 := Nat.mod_lt _ (by decide)
            refine x_i2l 67 (ab_dd tk_s_lists 36 rfl) rfl (x_topL (lN (mWa (cI a (aW a) (aQ a) (k + 1)) r)) (nI_l (by omega)) ?_)
            refine t_callV 70 M_ty_put 0 2 [_, _] (ab_dd tk_s_lists 37 rfl) rfl (by first | decide | omega) K_ty_put V_ty_put.1 V_ty_put.2 L_s_426 rfl (Nat.le_of_ble_eq_true rfl) (by omega) (Nat.lt_of_lt_of_le (show (109 + 2 * q) < 120 by omega) hx2.1) (x_109 hx2 (by omega)) rfl (c_ty_put hx2 (by omega) _ rfl k (by omega) (lN (mWa (cI a (aW a) (aQ a) (k + 1)) r))) (fun v1 w1 h1 => ?_)
            obtain ⟨rfl, rfl⟩ := h1
            rw [cut_s h5]
            have hE3 := hE2.pJ (a := 110 + 2 * q) (k := k) (x := lN (mWa (cI a (aW a) (aQ a) (k + 1)) r)) (List.mem_singleton.mpr rfl)
            have hx3 := (hB1.se hE3 (fun y hy => by simp only [List.mem_cons, List.not_mem_nil, or_false] at hy; omega)).1
            refine xn_iinc 73 5 (fun y => [some (.ref 50), some (.int (nI q)), some (.int (nI r)), some (.ref (109 + 2 * q)), some (.ref 104), some (.int y)]) (k + 1) (ab_dd tk_s_lists 38 rfl) rfl (by decide) rfl (fun _ => rfl) (iinc_p 1) ?_
            refine x_goto 41 (ab_dd tk_s_lists 39 rfl) (by decide) ?_
            refine ih (k + 1) (by omega) _ hE3 (fun i => ?_)
            show up2 _ _ _ _ _ _ = _
            by_cases hi : i = k
            · rw [hi, up2_s, if_pos (by omega), aI_cI ha.1, cSt_wa hck]
            · rw [up2_k hi, hJ2 i]
              by_cases h1 : i < k
              · rw [if_pos h1, if_pos (by omega)]
              · rw [if_neg h1, if_neg (by omega)]
        exact loop m 0 (by omega) S1 sEq.rf (fun i => by rw [if_neg (by omega), hE1.2.2.2.1 _ (by simp only [List.mem_cons, List.not_mem_nil, or_false, not_or]; omega)])
      · refine x_bipush 21 (-2) (ab_dd tk_s_lists 11 rfl) rfl (by decide) ?_
        exact x_iret (ab_dd tk_s_lists 12 rfl) (Or.inl ⟨fun z => h16 z.2, ⟨rfl, S, b, st, st2, rfl, fAs.rf, gA.rf, h.up (by omega), ht⟩⟩)
  · refine x_aload_n 1 0 (ab_dd tk_s_lists 0 rfl) rfl rfl rfl ?_
    refine x_iload_n 2 1 (ab_dd tk_s_lists 1 rfl) rfl rfl rfl ?_
    refine t_callV 5 M_s_trayAt 0 1 [_] (ab_dd tk_s_lists 2 rfl) rfl (by first | decide | omega) K_s_trayAt V_s_trayAt.1 V_s_trayAt.2 L_s_209 rfl (Nat.le_of_ble_eq_true rfl) (by decide) (Nat.lt_of_lt_of_le (by decide) hx.1) (hx.2.1 0 (by decide)) rfl (c_s_trayAtN hx e hdd) (fun v1 w1 h1 => ?_)
    obtain ⟨rfl, rfl⟩ := h1
    refine x_astore_nN 6 [some (.ref 50), some (.int e), some (.int p), some (.null), none, none] 3 (ab_dd tk_s_lists 3 rfl) rfl rfl (by decide) rfl ?_
    refine x_aload_nN 7 3 (ab_dd tk_s_lists 4 rfl) rfl rfl rfl ?_
    refine x_ifnull_t 19 (ab_dd tk_s_lists 5 rfl) (by decide) ?_
    refine x_bipush 21 (-2) (ab_dd tk_s_lists 11 rfl) rfl (by decide) ?_
    exact x_iret (ab_dd tk_s_lists 12 rfl) (Or.inl ⟨fun z => hdd z.1, ⟨rfl, S, b, st, st2, rfl, fAs.rf, gA.rf, h.up (by omega), ht⟩⟩)
