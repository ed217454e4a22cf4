/-! ===== lies, round, when, lists of the reference ===== -/
def tb_m_standAt : List (Nat × Instr × Nat) := [(0, .aload_n 0, 1), (1, .getfield 39, 3), (4, .iload_n 1, 1), (5, .aload_n 0, 1), (6, .getfield 349, 3), (9, .if_icmp .ge 7, 3), (12, .iload_n 1, 1), (13, .goto 19, 3), (16, .aload_n 0, 1), (17, .getfield 349, 3), (20, .iload_n 1, 1), (21, .aload_n 0, 1), (22, .getfield 349, 3), (25, .isub, 1), (26, .aload_n 0, 1), (27, .getfield 352, 3), (30, .irem, 1), (31, .iadd, 1), (32, .iaload, 1), (33, .ireturn, 1)]
theorem tk_m_standAt : ∀ q ∈ tb_m_standAt, decode M_m_standAt.2.1 q.1 = .ok q.2 := by decide +kernel
theorem c_m_standAt {G : ab_G} {S : ab_S} {a : Nat → Int32} (hm : mSh S) {n0 t0 : Nat} (hlas : isLas (aI a (a 40)) n0 t0) (h625 : n0 ≤ 625) (hrow : ∀ k, k < n0 → sI S 128 k = nI (aI a (a 40) k)) (htail : sI S 120 23 = nI t0) (hround : sI S 120 24 = nI (n0 - t0)) (m : Nat) (hmm : m < 2 ^ 30) : ab_C G 0 M_m_standAt [.ref 120, .int (nI m)] (sw S) (fun v w' => v = some (.int (nI (aI a (a 40) m))) ∧ w' = sw S) := by
  refine x_enter [some (.ref 120), some (.int (nI m))] (by decide) (Nat.le_of_ble_eq_true rfl) rfl (fun v w' h => by obtain ⟨rfl, rfl⟩ := h; rfl) ?_
  have ht0 := hlas.1
  refine x_aload_n 1 0 (ab_dd tk_m_standAt 0 rfl) rfl rfl rfl ?_
  refine t_getP 4 128 (ab_dd tk_m_standAt 1 rfl) rfl F_m_39 (by decide) (Nat.lt_of_lt_of_le (by decide) hm.1) (hm.2.1 0 (by decide)) rfl (hm.2.2 21 (by decide)) ?_
  refine x_iload_n 5 1 (ab_dd tk_m_standAt 2 rfl) rfl rfl rfl ?_
  refine x_aload_n 6 0 (ab_dd tk_m_standAt 3 rfl) rfl rfl rfl ?_
  refine t_getI 9 (ab_dd tk_m_standAt 4 rfl) rfl F_m_349 (by decide) (Nat.lt_of_lt_of_le (by decide) hm.1) (hm.2.1 0 (by decide)) rfl (x_topn t0 htail ?_)
  refine xn_icmp_ge 12 16 (ab_dd tk_m_standAt 5 rfl) rfl (by decide) (by omega) (by omega) (fun h9 => ?_) (fun h9 => ?_)
  · refine x_aload_n 17 0 (ab_dd tk_m_standAt 8 rfl) rfl rfl rfl ?_
    refine t_getI 20 (ab_dd tk_m_standAt 9 rfl) rfl F_m_349 (by decide) (Nat.lt_of_lt_of_le (by decide) hm.1) (hm.2.1 0 (by decide)) rfl (x_topn t0 htail ?_)
    refine x_iload_n 21 1 (ab_dd tk_m_standAt 10 rfl) rfl rfl rfl ?_
    refine x_aload_n 22 0 (ab_dd tk_m_standAt 11 rfl) rfl rfl rfl ?_
    refine t_getI 25 (ab_dd tk_m_standAt 12 rfl) rfl F_m_349 (by decide) (Nat.lt_of_lt_of_le (by decide) hm.1) (hm.2.1 0 (by decide)) rfl (x_topn t0 htail ?_)
    refine x_isub 26 (ab_dd tk_m_standAt 13 rfl) rfl (x_topn (m - t0) (pk_sub (by omega)) ?_)
    refine x_aload_n 27 0 (ab_dd tk_m_standAt 14 rfl) rfl rfl rfl ?_
    refine t_getI 30 (ab_dd tk_m_standAt 15 rfl) rfl F_m_352 (by decide) (Nat.lt_of_lt_of_le (by decide) hm.1) (hm.2.1 0 (by decide)) rfl (x_topn (n0 - t0) hround ?_)
    refine x_irem 31 (ab_dd tk_m_standAt 16 rfl) rfl (nI_ne0 (by omega) (by omega)) (x_topn ((m - t0) % (n0 - t0)) (pk_rem (by omega) (by omega) (by omega)) ?_)
    refine x_iadd 32 (ab_dd tk_m_standAt 17 rfl) rfl (x_topn (t0 + ((m - t0) % (n0 - t0))) (nI_add _ _) ?_)
    refine t_iald 33 (t0 + ((m - t0) % (n0 - t0))) (ab_dd tk_m_standAt 18 rfl) rfl (by decide) (Nat.lt_of_lt_of_le (by decide) hm.1) (hm.2.1 8 (by decide)) rfl (by have := Nat.mod_lt (m - t0) (show 0 < n0 - t0 by omega); omega) (by decide) (x_topn (aI a (a 40) m) ((hrow _ (by have := Nat.mod_lt (m - t0) (show 0 < n0 - t0 by omega); omega)).trans (congrArg nI (((isLas_at (g := fun c => aS a (a 40) c 0) (aI_s a (a 40)) hlas m).trans (by rw [if_neg (by omega)])).symm))) ?_)
    exact x_iret (ab_dd tk_m_standAt 19 rfl) ⟨rfl, rfl⟩
  · refine x_iload_n 13 1 (ab_dd tk_m_standAt 6 rfl) rfl rfl rfl ?_
    refine x_goto 32 (ab_dd tk_m_standAt 7 rfl) (by decide) ?_
    refine t_iald 33 m (ab_dd tk_m_standAt 18 rfl) rfl (by decide) (Nat.lt_of_lt_of_le (by decide) hm.1) (hm.2.1 8 (by decide)) rfl (by have := Nat.mod_lt (m - t0) (show 0 < n0 - t0 by omega); omega) (by decide) (x_topn (aI a (a 40) m) (hrow m (by omega)) ?_)
    exact x_iret (ab_dd tk_m_standAt 19 rfl) ⟨rfl, rfl⟩
def tb_m_isWarm : List (Nat × Instr × Nat) := [(0, .iload_n 0, 1), (1, .i2l, 1), (2, .lconst 0, 1), (3, .ldc2_w 363, 3), (6, .invokestatic 159, 3), (9, .ireturn, 1)]
theorem tk_m_isWarm : ∀ q ∈ tb_m_isWarm, decode M_m_isWarm.2.1 q.1 = .ok q.2 := by decide +kernel
theorem c_m_isWarm {G : ab_G} {S : ab_S} (k : Int32) : ab_C G 1 M_m_isWarm [.int k] (sw S) (fun v w' => v = some (.int (if 0 ≤ k ∧ k ≤ 4 then 1 else 0)) ∧ w' = sw S) := by
  refine x_enter [some (.int k)] (by decide) (Nat.le_of_ble_eq_true rfl) rfl (fun v w' h => by obtain ⟨rfl, rfl⟩ := h; show narrow _ _ = _; split <;> rfl) ?_
  refine x_iload_n 1 0 (ab_dd tk_m_isWarm 0 rfl) rfl rfl rfl ?_
  refine x_i2l 2 (ab_dd tk_m_isWarm 1 rfl) rfl ?_
  refine x_lconst 3 0 (ab_dd tk_m_isWarm 2 rfl) rfl (by decide) ?_
  refine x_ldc2 6 (ab_dd tk_m_isWarm 3 rfl) rfl C_m_363 ?_
  refine x_callS 9 M_m_within 0 3 [_, _, _] (ab_dd tk_m_isWarm 4 rfl) rfl (by decide) K_m_within T_m_within L_m_159 rfl (Nat.le_of_ble_eq_true rfl) (w_inI 0 4 rfl rfl _) (fun v1 w1 h1 => ?_)
  obtain ⟨rfl, rfl⟩ := h1
  exact x_iret (ab_dd tk_m_isWarm 5 rfl) ⟨rfl, rfl⟩
def tb_m_lies : List (Nat × Instr × Nat) := [(0, .aload_n 0, 1), (1, .iconst 0, 1), (2, .putfield 1, 3), (5, .aload_n 0, 1), (6, .iload_n 1, 1), (7, .i2l, 1), (8, .invokevirtual 258, 3), (11, .ifCond .ne 6, 3), (14, .bipush (-2), 2), (16, .ireturn, 1), (17, .iload_n 2, 1), (18, .i2l, 1), (19, .lconst 0, 1), (20, .ldc2_w 355, 3), (23, .invokestatic 159, 3), (26, .ifCond .ne 6, 3), (29, .bipush (-3), 2), (31, .ireturn, 1), (32, .aload_n 0, 1), (33, .invokevirtual 357, 3), (36, .aload_n 0, 1), (37, .iload_n 2, 1), (38, .invokevirtual 360, 3), (41, .iload_n 1, 1), (42, .invokestatic 228, 3), (45, .ireturn, 1)]
theorem tk_m_lies : ∀ q ∈ tb_m_lies, decode M_m_lies.2.1 q.1 = .ok q.2 := by decide +kernel
theorem c_m_lies {G : ab_G} {S : ab_S} {a : Nat → Int32} (hm : mSh S) (hA : mA S = a) (ha : aOk a) (r n : Int32) : ab_C G 6 M_m_lies [.ref 120, .int r, .int n] (sw S) (pQ S (some (.int (if (0 ≤ r ∧ cN r < aR a) then (if 0 ≤ n ∧ n ≤ 99999 then nI (mWa (aI a (a 40) (cN n)) (cN r)) else -3) else -2)))) := by
  refine x_enter [some (.ref 120), some (.int r), some (.int n)] (by decide) (Nat.le_of_ble_eq_true rfl) rfl (fun v w' h => by obtain ⟨rfl, -⟩ := h; rfl) ?_
  have hR4 := ha.R.2
  refine x_aload_n 1 0 (ab_dd tk_m_lies 0 rfl) rfl rfl rfl ?_
  refine x_iconst 2 0 (ab_dd tk_m_lies 1 rfl) rfl (by decide) (x_topn 0 rfl ?_)
  refine t_putI 5 (ab_dd tk_m_lies 2 rfl) rfl F_m_1 (by decide) (Nat.lt_of_lt_of_le (by decide) hm.1) (hm.2.1 0 (by decide)) rfl rfl rfl ?_
  refine x_aload_n 6 0 (ab_dd tk_m_lies 3 rfl) rfl rfl rfl ?_
  refine x_iload_n 7 1 (ab_dd tk_m_lies 4 rfl) rfl rfl rfl ?_
  refine x_i2l 8 (ab_dd tk_m_lies 5 rfl) rfl ?_
  refine t_callV 11 M_m_isRider 1 1 [_] (ab_dd tk_m_lies 6 rfl) rfl (by decide) K_m_isRider V_m_isRider.1 V_m_isRider.2 L_m_258 rfl (Nat.le_of_ble_eq_true rfl) (by decide) (Nat.lt_of_lt_of_le (by decide) hm.1) (hm.2.1 0 (by decide)) rfl (w_isRider (by exact hm) (by exact hA) ha _) (fun v1 w1 h1 => ?_)
  obtain ⟨rfl, rfl⟩ := h1
  refine xb_if_ne 14 17 (ab_dd tk_m_lies 7 rfl) rfl (by decide) (fun h11 => ?_) (fun h11 => ?_)
  · refine x_iload_n 18 2 (ab_dd tk_m_lies 10 rfl) rfl rfl rfl ?_
    refine x_i2l 19 (ab_dd tk_m_lies 11 rfl) rfl ?_
    refine x_lconst 20 0 (ab_dd tk_m_lies 12 rfl) rfl (by decide) ?_
    refine x_ldc2 23 (ab_dd tk_m_lies 13 rfl) rfl C_m_355 ?_
    refine x_callS 26 M_m_within 0 3 [_, _, _] (ab_dd tk_m_lies 14 rfl) rfl (by decide) K_m_within T_m_within L_m_159 rfl (Nat.le_of_ble_eq_true rfl) (w_inI 0 99999 rfl rfl _) (fun v1 w1 h1 => ?_)
    obtain ⟨rfl, rfl⟩ := h1
    refine xb_if_ne 29 32 (ab_dd tk_m_lies 15 rfl) rfl (by decide) (fun h26 => ?_) (fun h26 => ?_)
    · obtain ⟨p, hp, erp, er⟩ := rid_get h11 hR4
      obtain ⟨m, hm9, enm, en⟩ := in_get (n := 99999) (by decide) h26
      rw [show some (Value.int r) = some (Value.int (nI p)) by rw [erp], show some (Value.int n) = some (Value.int (nI m)) by rw [enm]]
      have hlt := (aI_ok ha (a 40) m).1
      refine x_aload_n 33 0 (ab_dd tk_m_lies 18 rfl) rfl rfl rfl ?_
      refine t_callV 36 M_m_laysRow 5 0 [] (ab_dd tk_m_lies 19 rfl) rfl (by decide) K_m_laysRow V_m_laysRow.1 V_m_laysRow.2 L_m_357 rfl (Nat.le_of_ble_eq_true rfl) (by decide) (Nat.lt_of_lt_of_le (by decide) hm.1) (hm.2.1 0 (by decide)) rfl (c_m_laysRow (by exact hm) (by exact hA) ha) (fun v1 w1 h1 => ?_)
      obtain ⟨rfl, U1, n0, t0, rfl, um1, uA1, uE1, uF1, hlas, h625, hrow, htail, hround⟩ := h1
      have ht0 := hlas.1
      refine x_aload_n 37 0 (ab_dd tk_m_lies 20 rfl) rfl rfl rfl ?_
      refine x_iload_n 38 2 (ab_dd tk_m_lies 21 rfl) rfl rfl rfl ?_
      refine t_callV 41 M_m_standAt 0 1 [_] (ab_dd tk_m_lies 22 rfl) rfl (by decide) K_m_standAt V_m_standAt.1 V_m_standAt.2 L_m_360 rfl (Nat.le_of_ble_eq_true rfl) (by decide) (Nat.lt_of_lt_of_le (by decide) um1.1) (um1.2.1 0 (by decide)) rfl (c_m_standAt (by exact um1) hlas h625 (by exact hrow) (by exact htail) (by exact hround) m (by omega)) (fun v1 w1 h1 => ?_)
      obtain ⟨rfl, rfl⟩ := h1
      refine x_iload_n 42 1 (ab_dd tk_m_lies 23 rfl) rfl rfl rfl ?_
      refine x_callS 45 M_m_warmthIn 1 2 [_, _] (ab_dd tk_m_lies 24 rfl) rfl (by decide) K_m_warmthIn T_m_warmthIn L_m_228 rfl (Nat.le_of_ble_eq_true rfl) (w_warmthIn _ (aI a (a 40) m) p hlt (by omega)) (fun v1 w1 h1 => ?_)
      obtain ⟨rfl, rfl⟩ := h1
      exact x_iret (ab_dd tk_m_lies 25 rfl) ⟨rI (by rw [if_pos h11, if_pos h26, en, er]), _, rfl, um1, uA1.trans hA.symm, (((sEq.rf (l := qL)).pI (by decide)).tr (uE1.mono (by decide))), (fEq.t2 uF1 (by exact (fEq.pI (fEq.rf (S := S)) (Or.inr (by decide)))))⟩
    · refine x_bipush 31 (-3) (ab_dd tk_m_lies 16 rfl) rfl (by decide) ?_
      exact x_iret (ab_dd tk_m_lies 17 rfl) ⟨rI ((if_pos h11).trans (if_neg h26)).symm, _, rfl, hm, hA.trans hA.symm, ((sEq.rf (l := qL)).pI (by decide)), (fEq.pI (fEq.rf (S := S)) (Or.inr (by decide)))⟩
  · refine x_bipush 16 (-2) (ab_dd tk_m_lies 8 rfl) rfl (by decide) ?_
    exact x_iret (ab_dd tk_m_lies 9 rfl) ⟨rI (if_neg h11).symm, _, rfl, hm, hA.trans hA.symm, ((sEq.rf (l := qL)).pI (by decide)), (fEq.pI (fEq.rf (S := S)) (Or.inr (by decide)))⟩
def tb_m_round : List (Nat × Instr × Nat) := [(0, .aload_n 0, 1), (1, .iconst 0, 1), (2, .putfield 1, 3), (5, .iload_n 1, 1), (6, .i2l, 1), (7, .lconst 0, 1), (8, .lconst 1, 1), (9, .invokestatic 159, 3), (12, .ifCond .ne 6, 3), (15, .bipush (-2), 2), (17, .ireturn, 1), (18, .aload_n 0, 1), (19, .invokevirtual 357, 3), (22, .iload_n 1, 1), (23, .ifCond .ne 10, 3), (26, .aload_n 0, 1), (27, .getfield 349, 3), (30, .goto 7, 3), (33, .aload_n 0, 1), (34, .getfield 352, 3), (37, .ireturn, 1)]
theorem tk_m_round : ∀ q ∈ tb_m_round, decode M_m_round.2.1 q.1 = .ok q.2 := by decide +kernel
theorem c_m_round {G : ab_G} {S : ab_S} {a : Nat → Int32} (hm : mSh S) (hA : mA S = a) (ha : aOk a) (x : Int32) : ab_C G 6 M_m_round [.ref 120, .int x] (sw S) (fun v w' => ∃ v0, pQ S (some (.int v0)) v w' ∧ ((¬ (0 ≤ x ∧ x ≤ 1) ∧ v0 = -2) ∨ ((0 ≤ x ∧ x ≤ 1) ∧ ∃ n t, isLas (aI a (a 40)) n t ∧ n ≤ 625 ∧ v0 = if x = 0 then nI t else nI (n - t)))) := by
  refine x_enter [some (.ref 120), some (.int x)] (by decide) (Nat.le_of_ble_eq_true rfl) rfl (fun v w' h => by obtain ⟨v0, ⟨rfl, -⟩, -⟩ := h; rfl) ?_
  refine x_aload_n 1 0 (ab_dd tk_m_round 0 rfl) rfl rfl rfl ?_
  refine x_iconst 2 0 (ab_dd tk_m_round 1 rfl) rfl (by decide) (x_topn 0 rfl ?_)
  refine t_putI 5 (ab_dd tk_m_round 2 rfl) rfl F_m_1 (by decide) (Nat.lt_of_lt_of_le (by decide) hm.1) (hm.2.1 0 (by decide)) rfl rfl rfl ?_
  refine x_iload_n 6 1 (ab_dd tk_m_round 3 rfl) rfl rfl rfl ?_
  refine x_i2l 7 (ab_dd tk_m_round 4 rfl) rfl ?_
  refine x_lconst 8 0 (ab_dd tk_m_round 5 rfl) rfl (by decide) ?_
  refine x_lconst 9 1 (ab_dd tk_m_round 6 rfl) rfl (by decide) ?_
  refine x_callS 12 M_m_within 0 3 [_, _, _] (ab_dd tk_m_round 7 rfl) rfl (by decide) K_m_within T_m_within L_m_159 rfl (Nat.le_of_ble_eq_true rfl) (w_inI 0 1 rfl rfl _) (fun v1 w1 h1 => ?_)
  obtain ⟨rfl, rfl⟩ := h1
  refine xb_if_ne 15 18 (ab_dd tk_m_round 8 rfl) rfl (by decide) (fun h12 => ?_) (fun h12 => ?_)
  · refine x_aload_n 19 0 (ab_dd tk_m_round 11 rfl) rfl rfl rfl ?_
    refine t_callV 22 M_m_laysRow 5 0 [] (ab_dd tk_m_round 12 rfl) rfl (by decide) K_m_laysRow V_m_laysRow.1 V_m_laysRow.2 L_m_357 rfl (Nat.le_of_ble_eq_true rfl) (by decide) (Nat.lt_of_lt_of_le (by decide) hm.1) (hm.2.1 0 (by decide)) rfl (c_m_laysRow (by exact hm) (by exact hA) ha) (fun v1 w1 h1 => ?_)
    obtain ⟨rfl, U1, n0, t0, rfl, um1, uA1, uE1, uF1, hlas, h625, hrow, htail, hround⟩ := h1
    have ht0 := hlas.1
    refine x_iload_n 23 1 (ab_dd tk_m_round 13 rfl) rfl rfl rfl ?_
    refine x_if_ne 26 33 (ab_dd tk_m_round 14 rfl) rfl (by decide) (fun h23 => ?_) (fun h23 => ?_)
    · refine x_aload_n 34 0 (ab_dd tk_m_round 18 rfl) rfl rfl rfl ?_
      refine t_getI 37 (ab_dd tk_m_round 19 rfl) rfl F_m_352 (by decide) (Nat.lt_of_lt_of_le (by decide) um1.1) (um1.2.1 0 (by decide)) rfl (x_topn (n0 - t0) hround ?_)
      exact x_iret (ab_dd tk_m_round 20 rfl) ⟨nI (n0 - t0), ⟨rfl, _, rfl, um1, uA1.trans hA.symm, (((sEq.rf (l := qL)).pI (by decide)).tr (uE1.mono (by decide))), (fEq.t2 uF1 (by exact (fEq.pI (fEq.rf (S := S)) (Or.inr (by decide)))))⟩, Or.inr ⟨h12, n0, t0, hlas, h625, (if_neg h23).symm⟩⟩
    · refine x_aload_n 27 0 (ab_dd tk_m_round 15 rfl) rfl rfl rfl ?_
      refine t_getI 30 (ab_dd tk_m_round 16 rfl) rfl F_m_349 (by decide) (Nat.lt_of_lt_of_le (by decide) um1.1) (um1.2.1 0 (by decide)) rfl (x_topn t0 htail ?_)
      refine x_goto 37 (ab_dd tk_m_round 17 rfl) (by decide) ?_
      exact x_iret (ab_dd tk_m_round 20 rfl) ⟨nI t0, ⟨rfl, _, rfl, um1, uA1.trans hA.symm, (((sEq.rf (l := qL)).pI (by decide)).tr (uE1.mono (by decide))), (fEq.t2 uF1 (by exact (fEq.pI (fEq.rf (S := S)) (Or.inr (by decide)))))⟩, Or.inr ⟨h12, n0, t0, hlas, h625, (if_pos h23).symm⟩⟩
  · refine x_bipush 17 (-2) (ab_dd tk_m_round 9 rfl) rfl (by decide) ?_
    exact x_iret (ab_dd tk_m_round 10 rfl) ⟨-2, ⟨rfl, _, rfl, hm, hA.trans hA.symm, ((sEq.rf (l := qL)).pI (by decide)), (fEq.pI (fEq.rf (S := S)) (Or.inr (by decide)))⟩, Or.inl ⟨h12, rfl⟩⟩
def tb_m_when : List (Nat × Instr × Nat) := [(0, .aload_n 0, 1), (1, .iconst 0, 1), (2, .putfield 1, 3), (5, .iload_n 1, 1), (6, .invokestatic 365, 3), (9, .ifCond .ne 6, 3), (12, .bipush (-3), 2), (14, .ireturn, 1), (15, .aload_n 0, 1), (16, .invokevirtual 357, 3), (19, .iconst 0, 1), (20, .istore_n 2, 1), (21, .iload_n 2, 1), (22, .aload_n 0, 1), (23, .getfield 349, 3), (26, .aload_n 0, 1), (27, .getfield 352, 3), (30, .iadd, 1), (31, .if_icmp .ge 25, 3), (34, .aload_n 0, 1), (35, .aload_n 0, 1), (36, .getfield 39, 3), (39, .iload_n 2, 1), (40, .iaload, 1), (41, .invokevirtual 288, 3), (44, .iload_n 1, 1), (45, .if_icmp .lt 5, 3), (48, .iload_n 2, 1), (49, .ireturn, 1), (50, .iinc 2 1, 3), (53, .goto (-32), 3), (56, .iconst (-1), 1), (57, .ireturn, 1)]
theorem tk_m_when : ∀ q ∈ tb_m_when, decode M_m_when.2.1 q.1 = .ok q.2 := by decide +kernel
theorem c_m_when {G : ab_G} {S : ab_S} {a : Nat → Int32} (hm : mSh S) (hA : mA S = a) (ha : aOk a) (k : Int32) : ab_C G 6 M_m_when [.ref 120, .int k] (sw S) (fun v w' => ∃ v0, pQ S (some (.int v0)) v w' ∧ ((¬ (0 ≤ k ∧ k ≤ 4) ∧ v0 = -3) ∨ ((0 ≤ k ∧ k ≤ 4) ∧ fstM (fun m => cN k ≤ mLe (aI a (a 40) m) (aR a)) v0))) := by
  have loop : ∀ (S1 : ab_S) (n0 t0 h : Nat), cN k = h → h ≤ 4 → (0 ≤ k ∧ k ≤ 4) → mSh S1 → mA S1 = a → sEq qL S S1 → fEq S S1 → isLas (aI a (a 40)) n0 t0 → n0 ≤ 625 → (∀ k, k < n0 → sI S1 128 k = nI (aI a (a 40) k)) → sI S1 120 23 = nI t0 → sI S1 120 24 = nI (n0 - t0) → ∀ (m n : Nat), n + m = n0 → (∀ j, j < n → ¬ (fun m => cN k ≤ mLe (aI a (a 40) m) (aR a)) j) → ab_Ex G 6 M_m_when 21 [some (.ref 120), some (.int (nI h)), some (.int (nI n))] [] (sw S1) (fun v w' => ∃ v0, pQ S (some (.int v0)) v w' ∧ ((¬ (0 ≤ k ∧ k ≤ 4) ∧ v0 = -3) ∨ ((0 ≤ k ∧ k ≤ 4) ∧ fstM (fun m => cN k ≤ mLe (aI a (a 40) m) (aR a)) v0))) := by
    intro S1 n0 t0 h ek hh hz hm1 hA1 hE1 hF1 hlas h625 hrow htail hround m
    have ht0 := hlas.1
    induction m with
    | zero =>
      intro n hn hno
      refine x_iload_n 22 2 (ab_dd tk_m_when 12 rfl) rfl rfl rfl ?_
      refine x_aload_n 23 0 (ab_dd tk_m_when 13 rfl) rfl rfl rfl ?_
      refine t_getI 26 (ab_dd tk_m_when 14 rfl) rfl F_m_349 (by decide) (Nat.lt_of_lt_of_le (by decide) hm1.1) (hm1.2.1 0 (by decide)) rfl (x_topn t0 htail ?_)
      refine x_aload_n 27 0 (ab_dd tk_m_when 15 rfl) rfl rfl rfl ?_
      refine t_getI 30 (ab_dd tk_m_when 16 rfl) rfl F_m_352 (by decide) (Nat.lt_of_lt_of_le (by decide) hm1.1) (hm1.2.1 0 (by decide)) rfl (x_topn (n0 - t0) hround ?_)
      refine x_iadd 31 (ab_dd tk_m_when 17 rfl) rfl (x_topn (t0 + (n0 - t0)) (nI_add _ _) ?_)
      refine x_icmp_ge_t 56 (ab_dd tk_m_when 18 rfl) (by decide) ((nI_leI (a := (t0 + (n0 - t0))) (b := n) (by omega) (by omega)).mpr (show (t0 + (n0 - t0)) ≤ n by omega)) ?_
      refine x_iconst 57 (-1) (ab_dd tk_m_when 31 rfl) rfl (by decide) ?_
      refine x_iret (ab_dd tk_m_when 32 rfl) ⟨-1, ⟨rfl, _, rfl, hm1, hA1.trans hA.symm, hE1, hF1⟩, Or.inr ⟨hz, Or.inr ⟨fun m hP => ?_, rfl⟩⟩⟩
      have e := isLas_at (g := fun c => aS a (a 40) c 0) (aI_s a (a 40)) hlas m
      have hP2 : cN k ≤ mLe (aI a (a 40) m) (aR a) := hP
      rw [e] at hP2
      refine hno _ ?_ hP2
      by_cases g : m < t0
      · rw [if_pos g]; omega
      · rw [if_neg g]
        have := Nat.mod_lt (m - t0) (show 0 < n0 - t0 by omega)
        omega
    | succ m ih =>
      intro n hn hno
      have hlt := (aI_ok ha (a 40) n).1
      have hl4 := mLe_le (aI a (a 40) n) (aR a)
      refine x_iload_n 22 2 (ab_dd tk_m_when 12 rfl) rfl rfl rfl ?_
      refine x_aload_n 23 0 (ab_dd tk_m_when 13 rfl) rfl rfl rfl ?_
      refine t_getI 26 (ab_dd tk_m_when 14 rfl) rfl F_m_349 (by decide) (Nat.lt_of_lt_of_le (by decide) hm1.1) (hm1.2.1 0 (by decide)) rfl (x_topn t0 htail ?_)
      refine x_aload_n 27 0 (ab_dd tk_m_when 15 rfl) rfl rfl rfl ?_
      refine t_getI 30 (ab_dd tk_m_when 16 rfl) rfl F_m_352 (by decide) (Nat.lt_of_lt_of_le (by decide) hm1.1) (hm1.2.1 0 (by decide)) rfl (x_topn (n0 - t0) hround ?_)
      refine x_iadd 31 (ab_dd tk_m_when 17 rfl) rfl (x_topn (t0 + (n0 - t0)) (nI_add _ _) ?_)
      refine x_icmp_ge_f 34 (ab_dd tk_m_when 18 rfl) rfl 56 (by decide) (fun z => absurd ((nI_leI (a := (t0 + (n0 - t0))) (b := n) (by omega) (by omega)).mp z) (show ¬ ((t0 + (n0 - t0)) ≤ n) by omega)) ?_
      refine x_aload_n 35 0 (ab_dd tk_m_when 19 rfl) rfl rfl rfl ?_
      refine x_aload_n 36 0 (ab_dd tk_m_when 20 rfl) rfl rfl rfl ?_
      refine t_getP 39 128 (ab_dd tk_m_when 21 rfl) rfl F_m_39 (by decide) (Nat.lt_of_lt_of_le (by decide) hm1.1) (hm1.2.1 0 (by decide)) rfl (hm1.2.2 21 (by decide)) ?_
      refine x_iload_n 40 2 (ab_dd tk_m_when 22 rfl) rfl rfl rfl ?_
      refine t_iald 41 n (ab_dd tk_m_when 23 rfl) rfl (by decide) (Nat.lt_of_lt_of_le (by decide) hm1.1) (hm1.2.1 8 (by decide)) rfl (by omega) (by decide) (x_topn (aI a (a 40) n) (hrow n (by omega)) ?_)
      refine t_callV 44 M_m_leastIn 2 1 [_] (ab_dd tk_m_when 24 rfl) rfl (by decide) K_m_leastIn V_m_leastIn.1 V_m_leastIn.2 L_m_288 rfl (Nat.le_of_ble_eq_true rfl) (by decide) (Nat.lt_of_lt_of_le (by decide) hm1.1) (hm1.2.1 0 (by decide)) rfl (w_leastIn (by exact hm1) (by exact hA1) ha (aI a (a 40) n) (by omega)) (fun v1 w1 h1 => ?_)
      obtain ⟨rfl, rfl⟩ := h1
      refine x_iload_n 45 1 (ab_dd tk_m_when 25 rfl) rfl rfl rfl ?_
      refine xn_icmp_lt 48 50 (ab_dd tk_m_when 26 rfl) rfl (by decide) (by omega) (by omega) (fun h45 => ?_) (fun h45 => ?_)
      · refine xn_iinc 53 2 (fun y => [some (.ref 120), some (.int (nI h)), some (.int y)]) (n + 1) (ab_dd tk_m_when 29 rfl) rfl (by decide) rfl (fun _ => rfl) (iinc_p 1) ?_
        refine x_goto 21 (ab_dd tk_m_when 30 rfl) (by decide) ?_
        refine ih (n + 1) (by omega) (fun j hj => ?_)
        by_cases g : j = n
        · rw [g]
          show ¬ cN k ≤ _
          rw [ek]; omega
        · exact hno j (by omega)
      · refine x_iload_n 49 2 (ab_dd tk_m_when 27 rfl) rfl rfl rfl ?_
        exact x_iret (ab_dd tk_m_when 28 rfl) ⟨nI n, ⟨rfl, _, rfl, hm1, hA1.trans hA.symm, hE1, hF1⟩, Or.inr ⟨hz, Or.inl ⟨n, by show cN k ≤ _; rw [ek]; omega, hno, rfl⟩⟩⟩
  refine x_enter [some (.ref 120), some (.int k), none] (by decide) (Nat.le_of_ble_eq_true rfl) rfl (fun v w' h => by obtain ⟨v0, ⟨rfl, -⟩, -⟩ := h; rfl) ?_
  refine x_aload_n 1 0 (ab_dd tk_m_when 0 rfl) rfl rfl rfl ?_
  refine x_iconst 2 0 (ab_dd tk_m_when 1 rfl) rfl (by decide) (x_topn 0 rfl ?_)
  refine t_putI 5 (ab_dd tk_m_when 2 rfl) rfl F_m_1 (by decide) (Nat.lt_of_lt_of_le (by decide) hm.1) (hm.2.1 0 (by decide)) rfl rfl rfl ?_
  refine x_iload_n 6 1 (ab_dd tk_m_when 3 rfl) rfl rfl rfl ?_
  refine x_callS 9 M_m_isWarm 1 1 [_] (ab_dd tk_m_when 4 rfl) rfl (by decide) K_m_isWarm T_m_isWarm L_m_365 rfl (Nat.le_of_ble_eq_true rfl) (c_m_isWarm _) (fun v1 w1 h1 => ?_)
  obtain ⟨rfl, rfl⟩ := h1
  refine xb_if_ne 12 15 (ab_dd tk_m_when 5 rfl) rfl (by decide) (fun h9 => ?_) (fun h9 => ?_)
  · obtain ⟨h, hh, ekh, ek⟩ := in_get (n := 4) (by decide) h9
    rw [show some (Value.int k) = some (Value.int (nI h)) by rw [ekh]]
    refine x_aload_n 16 0 (ab_dd tk_m_when 8 rfl) rfl rfl rfl ?_
    refine t_callV 19 M_m_laysRow 5 0 [] (ab_dd tk_m_when 9 rfl) rfl (by decide) K_m_laysRow V_m_laysRow.1 V_m_laysRow.2 L_m_357 rfl (Nat.le_of_ble_eq_true rfl) (by decide) (Nat.lt_of_lt_of_le (by decide) hm.1) (hm.2.1 0 (by decide)) rfl (c_m_laysRow (by exact hm) (by exact hA) ha) (fun v1 w1 h1 => ?_)
    obtain ⟨rfl, U1, n0, t0, rfl, um1, uA1, uE1, uF1, hlas, h625, hrow, htail, hround⟩ := h1
    have ht0 := hlas.1
    refine x_iconst 20 0 (ab_dd tk_m_when 10 rfl) rfl (by decide) (x_topn 0 rfl ?_)
    refine x_istore_n 21 [some (.ref 120), some (.int (nI h)), some (.int (nI 0))] 2 (ab_dd tk_m_when 11 rfl) rfl rfl (by decide) rfl ?_
    exact loop _ n0 t0 h ek hh h9 um1 uA1 (((sEq.rf (l := qL)).pI (by decide)).tr (uE1.mono (by decide))) (fEq.t2 uF1 (by exact (fEq.pI (fEq.rf (S := S)) (Or.inr (by decide))))) hlas h625 hrow htail hround n0 0 (by omega) (fun j hj => absurd hj (by omega))
  · refine x_bipush 14 (-3) (ab_dd tk_m_when 6 rfl) rfl (by decide) ?_
    exact x_iret (ab_dd tk_m_when 7 rfl) ⟨-3, ⟨rfl, _, rfl, hm, hA.trans hA.symm, ((sEq.rf (l := qL)).pI (by decide)), (fEq.pI (fEq.rf (S := S)) (Or.inr (by decide)))⟩, Or.inl ⟨h9, rfl⟩⟩
def mLis (f : Nat → Int64) (a : Nat → Int32) (q n r : Nat) : Nat → Int64 := fun j => if 40 * q ≤ j ∧ j < 40 * q + n then lN (mWa (aI a (a 40) (j - 40 * q + 1)) r) else f j
def tb_m_lists : List (Nat × Instr × Nat) := [(0, .aload_n 0, 1), (1, .iconst 0, 1), (2, .putfield 1, 3), (5, .iload_n 1, 1), (6, .i2l, 1), (7, .lconst 0, 1), (8, .ldc2_w 303, 3), (11, .invokestatic 159, 3), (14, .ifCond .eq 12, 3), (17, .aload_n 0, 1), (18, .iload_n 2, 1), (19, .i2l, 1), (20, .invokevirtual 258, 3), (23, .ifCond .ne 6, 3), (26, .bipush (-2), 2), (28, .ireturn, 1), (29, .aload_n 0, 1), (30, .iload_n 1, 1), (31, .invokevirtual 325, 3), (34, .istore_n 3, 1), (35, .iload_n 3, 1), (36, .ifCond .eq 5, 3), (39, .iload_n 3, 1), (40, .ireturn, 1), (41, .aload_n 0, 1), (42, .invokevirtual 357, 3), (45, .iconst 0, 1), (46, .istore 4, 2), (48, .iload 4, 2), (50, .aload_n 0, 1), (51, .getfield 87, 3), (54, .iload_n 1, 1), (55, .iaload, 1), (56, .if_icmp .ge 34, 3), (59, .aload_n 0, 1), (60, .getfield 90, 3), (63, .bipush 40, 2), (65, .iload_n 1, 1), (66, .imul, 1), (67, .iload 4, 2), (69, .iadd, 1), (70, .aload_n 0, 1), (71, .iload 4, 2), (73, .iconst 1, 1), (74, .iadd, 1), (75, .invokevirtual 360, 3), (78, .iload_n 2, 1), (79, .invokestatic 228, 3), (82, .i2l, 1), (83, .lastore, 1), (84, .iinc 4 1, 3), (87, .goto (-39), 3), (90, .aload_n 0, 1), (91, .getfield 87, 3), (94, .iload_n 1, 1), (95, .iaload, 1), (96, .ireturn, 1)]
theorem tk_m_lists : ∀ q ∈ tb_m_lists, decode M_m_lists.2.1 q.1 = .ok q.2 := by decide +kernel
theorem c_m_lists {G : ab_G} {S : ab_S} {a : Nat → Int32} (hm : mSh S) (hA : mA S = a) (ha : aOk a) (ht : mTr S) (t r : Int32) : ab_C G 6 M_m_lists [.ref 120, .int t, .int r] (sw S) (fun v w' => ∃ S', w' = sw S' ∧ mSh S' ∧ mA S' = a ∧ sEq (144 :: qL) S S' ∧ fEq S S' ∧ ((¬ ((0 ≤ t ∧ t ≤ 3) ∧ (0 ≤ r ∧ cN r < aR a)) ∧ v = some (.int (-2)) ∧ sJ S' 144 = sJ S 144) ∨ (((0 ≤ t ∧ t ≤ 3) ∧ (0 ≤ r ∧ cN r < aR a)) ∧ ¬ mNt S t = 0 ∧ v = some (.int (mNt S t)) ∧ sJ S' 144 = sJ S 144) ∨ (((0 ≤ t ∧ t ≤ 3) ∧ (0 ≤ r ∧ cN r < aR a)) ∧ mNt S t = 0 ∧ v = some (.int (nI (mTc S (cN t)))) ∧ sJ S' 144 = mLis (sJ S 144) a (cN t) (mTc S (cN t)) (cN r)))) := by
  have hR4 := ha.R.2
  have go : ∀ (S0 : ab_S) (n0 t0 q c p : Nat) (nn : Int32), q ≤ 3 → cN t = q → sI S 143 q = nI c → c ≤ 40 → p < aR a → cN r = p → ((0 ≤ t ∧ t ≤ 3) ∧ (0 ≤ r ∧ cN r < aR a)) → mNt S t = 0 → mSh S0 → mA S0 = a → sEq qL S S0 → fEq S S0 → isLas (aI a (a 40)) n0 t0 → n0 ≤ 625 → (∀ k, k < n0 → sI S0 128 k = nI (aI a (a 40) k)) → sI S0 120 23 = nI t0 → sI S0 120 24 = nI (n0 - t0) → ab_Ex G 6 M_m_lists 48 [some (.ref 120), some (.int (nI q)), some (.int (nI p)), some (.int nn), some (.int (nI 0))] [] (sw S0) (fun v w' => ∃ S', w' = sw S' ∧ mSh S' ∧ mA S' = a ∧ sEq (144 :: qL) S S' ∧ fEq S S' ∧ ((¬ ((0 ≤ t ∧ t ≤ 3) ∧ (0 ≤ r ∧ cN r < aR a)) ∧ v = some (.int (-2)) ∧ sJ S' 144 = sJ S 144) ∨ (((0 ≤ t ∧ t ≤ 3) ∧ (0 ≤ r ∧ cN r < aR a)) ∧ ¬ mNt S t = 0 ∧ v = some (.int (mNt S t)) ∧ sJ S' 144 = sJ S 144) ∨ (((0 ≤ t ∧ t ≤ 3) ∧ (0 ≤ r ∧ cN r < aR a)) ∧ mNt S t = 0 ∧ v = some (.int (nI (mTc S (cN t)))) ∧ sJ S' 144 = mLis (sJ S 144) a (cN t) (mTc S (cN t)) (cN r)))) := by
    intro S0 n0 t0 q c p nn hq eq ec hc hp er hz h0 hm2 hA2 hE2 hF2 hlas h625 hrow htail hround
    have ht0 := hlas.1
    have ecq : mTc S q = c := by show cN (sI S 143 q) = c; rw [ec, cN_nI (by omega)]
    have ec0 : sI S0 143 q = nI c := (congrFun (hE2.2.2.1 143 (by decide)) q).trans ec
    have loop : ∀ (m k : Nat), k + m = c → ∀ S1 : ab_S, sEq [144] S0 S1 → (∀ i, sJ S1 144 i = if (40 * q) ≤ i ∧ i < (40 * q) + k then (fun j => lN (mWa (aI a (a 40) (j + 1)) p)) (i - (40 * q)) else sJ S0 144 i) → ab_Ex G 6 M_m_lists 48 [some (.ref 120), some (.int (nI q)), some (.int (nI p)), some (.int nn), some (.int (nI k))] [] (sw S1) (fun v w' => ∃ S', w' = sw S' ∧ mSh S' ∧ mA S' = a ∧ sEq (144 :: qL) S S' ∧ fEq S S' ∧ ((¬ ((0 ≤ t ∧ t ≤ 3) ∧ (0 ≤ r ∧ cN r < aR a)) ∧ v = some (.int (-2)) ∧ sJ S' 144 = sJ S 144) ∨ (((0 ≤ t ∧ t ≤ 3) ∧ (0 ≤ r ∧ cN r < aR a)) ∧ ¬ mNt S t = 0 ∧ v = some (.int (mNt S t)) ∧ sJ S' 144 = sJ S 144) ∨ (((0 ≤ t ∧ t ≤ 3) ∧ (0 ≤ r ∧ cN r < aR a)) ∧ mNt S t = 0 ∧ v = some (.int (nI (mTc S (cN t)))) ∧ sJ S' 144 = mLis (sJ S 144) a (cN t) (mTc S (cN t)) (cN r)))) := by
      intro m
      induction m with
      | zero =>
        intro k hk S1 hE hV
        have hm1 := hm2.eq hE
        have hkN : k = c := by omega
        rw [hkN] at hV ⊢
        refine x_iload 50 4 (ab_dd tk_m_lists 28 rfl) rfl rfl ?_
        refine x_aload_n 51 0 (ab_dd tk_m_lists 29 rfl) rfl rfl rfl ?_
        refine t_getP 54 143 (ab_dd tk_m_lists 30 rfl) rfl F_m_87 (by decide) (Nat.lt_of_lt_of_le (by decide) hm1.1) (hm1.2.1 0 (by decide)) rfl (hm1.2.2 43 (by decide)) ?_
        refine x_iload_n 55 1 (ab_dd tk_m_lists 31 rfl) rfl rfl rfl ?_
        refine t_iald 56 q (ab_dd tk_m_lists 32 rfl) rfl (by decide) (Nat.lt_of_lt_of_le (by decide) hm1.1) (hm1.2.1 23 (by decide)) rfl (by omega) (by decide) (x_topn c ((congrFun (hE.2.2.1 143 (by decide)) q).trans ec0) ?_)
        refine x_icmp_ge_t 90 (ab_dd tk_m_lists 33 rfl) (by decide) ((nI_leI (a := c) (b := c) (by omega) (by omega)).mpr (show c ≤ c by omega)) ?_
        refine x_aload_n 91 0 (ab_dd tk_m_lists 52 rfl) rfl rfl rfl ?_
        refine t_getP 94 143 (ab_dd tk_m_lists 53 rfl) rfl F_m_87 (by decide) (Nat.lt_of_lt_of_le (by decide) hm1.1) (hm1.2.1 0 (by decide)) rfl (hm1.2.2 43 (by decide)) ?_
        refine x_iload_n 95 1 (ab_dd tk_m_lists 54 rfl) rfl rfl rfl ?_
        refine t_iald 96 q (ab_dd tk_m_lists 55 rfl) rfl (by decide) (Nat.lt_of_lt_of_le (by decide) hm1.1) (hm1.2.1 23 (by decide)) rfl (by omega) (by decide) (x_topn c ((congrFun (hE.2.2.1 143 (by decide)) q).trans ec0) ?_)
        exact x_iret (ab_dd tk_m_lists 56 rfl) ⟨_, rfl, hm1, (hE.2.2.1 121 (by decide)).trans hA2, (hE2.mono (by decide)).tr (hE.mono (by decide)), hF2.tr hE (by decide), Or.inr (Or.inr ⟨hz, h0, by rw [eq, ecq], by
          rw [eq, er, ecq]
          funext j
          rw [hV j]
          unfold mLis
          rw [hE2.2.2.2.1 144 (by decide)]⟩)⟩
      | succ m ih =>
        intro k hk S1 hE hV
        have hm1 := hm2.eq hE
        refine x_iload 50 4 (ab_dd tk_m_lists 28 rfl) rfl rfl ?_
        refine x_aload_n 51 0 (ab_dd tk_m_lists 29 rfl) rfl rfl rfl ?_
        refine t_getP 54 143 (ab_dd tk_m_lists 30 rfl) rfl F_m_87 (by decide) (Nat.lt_of_lt_of_le (by decide) hm1.1) (hm1.2.1 0 (by decide)) rfl (hm1.2.2 43 (by decide)) ?_
        refine x_iload_n 55 1 (ab_dd tk_m_lists 31 rfl) rfl rfl rfl ?_
        refine t_iald 56 q (ab_dd tk_m_lists 32 rfl) rfl (by decide) (Nat.lt_of_lt_of_le (by decide) hm1.1) (hm1.2.1 23 (by decide)) rfl (by omega) (by decide) (x_topn c ((congrFun (hE.2.2.1 143 (by decide)) q).trans ec0) ?_)
        refine x_icmp_ge_f 59 (ab_dd tk_m_lists 33 rfl) rfl 90 (by decide) (fun z => absurd ((nI_leI (a := c) (b := k) (by omega) (by omega)).mp z) (show ¬ (c ≤ k) by omega)) ?_
        refine x_aload_n 60 0 (ab_dd tk_m_lists 34 rfl) rfl rfl rfl ?_
        refine t_getP 63 144 (ab_dd tk_m_lists 35 rfl) rfl F_m_90 (by decide) (Nat.lt_of_lt_of_le (by decide) hm1.1) (hm1.2.1 0 (by decide)) rfl (hm1.2.2 44 (by decide)) ?_
        refine x_bipush 65 40 (ab_dd tk_m_lists 36 rfl) rfl (by decide) (x_topn 40 rfl ?_)
        refine x_iload_n 66 1 (ab_dd tk_m_lists 37 rfl) rfl rfl rfl ?_
        refine x_imul 67 (ab_dd tk_m_lists 38 rfl) rfl (x_topn (40 * q) (pk_mul _ _) ?_)
        refine x_iload 69 4 (ab_dd tk_m_lists 39 rfl) rfl rfl ?_
        refine x_iadd 70 (ab_dd tk_m_lists 40 rfl) rfl (x_topn ((40 * q) + k) (nI_add _ _) ?_)
        refine x_aload_n 71 0 (ab_dd tk_m_lists 41 rfl) rfl rfl rfl ?_
        refine x_iload 73 4 (ab_dd tk_m_lists 42 rfl) rfl rfl ?_
        refine x_iconst 74 1 (ab_dd tk_m_lists 43 rfl) rfl (by decide) (x_topn 1 rfl ?_)
        refine x_iadd 75 (ab_dd tk_m_lists 44 rfl) rfl (x_topn (k + 1) (nI_add _ _) ?_)
        refine t_callV 78 M_m_standAt 0 1 [_] (ab_dd tk_m_lists 45 rfl) rfl (by decide) K_m_standAt V_m_standAt.1 V_m_standAt.2 L_m_360 rfl (Nat.le_of_ble_eq_true rfl) (by decide) (Nat.lt_of_lt_of_le (by decide) hm1.1) (hm1.2.1 0 (by decide)) rfl (c_m_standAt (by exact hm1) hlas h625 (fun j hj => (congrFun (hE.2.2.1 128 (by decide)) j).trans (hrow j hj)) ((congrFun (hE.2.2.1 120 (by decide)) _).trans htail) ((congrFun (hE.2.2.1 120 (by decide)) _).trans hround) (k + 1) (by omega)) (fun v1 w1 h1 => ?_)
        obtain ⟨rfl, rfl⟩ := h1
        refine x_iload_n 79 2 (ab_dd tk_m_lists 46 rfl) rfl rfl rfl ?_
        refine x_callS 82 M_m_warmthIn 1 2 [_, _] (ab_dd tk_m_lists 47 rfl) rfl (by decide) K_m_warmthIn T_m_warmthIn L_m_228 rfl (Nat.le_of_ble_eq_true rfl) (w_warmthIn _ (aI a (a 40) (k + 1)) p (aI_ok ha (a 40) _).1 (by omega)) (fun v1 w1 h1 => ?_)
        obtain ⟨rfl, rfl⟩ := h1
        refine x_i2l 83 (ab_dd tk_m_lists 48 rfl) rfl (x_topL (lN (mWa (aI a (a 40) (k + 1)) p)) (nI_l (Nat.lt_trans (mWa_lt _ _) (by decide))) ?_)
        refine t_last 84 ((40 * q) + k) (ab_dd tk_m_lists 49 rfl) rfl (by decide) (Nat.lt_of_lt_of_le (by decide) hm1.1) (hm1.2.1 24 (by decide)) rfl (by omega) (by decide) ?_
        refine xn_iinc 87 4 (fun y => [some (.ref 120), some (.int (nI q)), some (.int (nI p)), some (.int nn), some (.int y)]) (k + 1) (ab_dd tk_m_lists 50 rfl) rfl (by decide) rfl (fun _ => rfl) (iinc_p 1) ?_
        refine x_goto 48 (ab_dd tk_m_lists 51 rfl) (by decide) ?_
        refine ih (k + 1) (by omega) _ ?_ ?_
        · exact hE.pJ (by decide)
        · intro i
          show up2 (sJ S1) 144 ((40 * q) + k) _ 144 i = _
          by_cases hi : i = (40 * q) + k
          · rw [hi, up2_s, if_pos ⟨by omega, by omega⟩, show (40 * q) + k - (40 * q) = k by omega]
          · rw [up2_k hi, hV i]
            by_cases h1 : (40 * q) ≤ i ∧ i < (40 * q) + k
            · rw [if_pos h1, if_pos ⟨h1.1, by omega⟩]
            · rw [if_neg h1, if_neg (fun z => h1 ⟨z.1, by omega⟩)]
    exact loop c 0 (by omega) _ sEq.rf (fun j => by rw [if_neg (by omega)])
  refine x_enter [some (.ref 120), some (.int t), some (.int r), none, none] (by decide) (Nat.le_of_ble_eq_true rfl) rfl (fun v w' h => by obtain ⟨S', rfl, -, -, -, -, h⟩ := h; rcases h with ⟨-, rfl, -⟩ | ⟨-, -, rfl, -⟩ | ⟨-, -, rfl, -⟩ <;> rfl) ?_
  refine x_aload_n 1 0 (ab_dd tk_m_lists 0 rfl) rfl rfl rfl ?_
  refine x_iconst 2 0 (ab_dd tk_m_lists 1 rfl) rfl (by decide) (x_topn 0 rfl ?_)
  refine t_putI 5 (ab_dd tk_m_lists 2 rfl) rfl F_m_1 (by decide) (Nat.lt_of_lt_of_le (by decide) hm.1) (hm.2.1 0 (by decide)) rfl rfl rfl ?_
  refine x_iload_n 6 1 (ab_dd tk_m_lists 3 rfl) rfl rfl rfl ?_
  refine x_i2l 7 (ab_dd tk_m_lists 4 rfl) rfl ?_
  refine x_lconst 8 0 (ab_dd tk_m_lists 5 rfl) rfl (by decide) ?_
  refine x_ldc2 11 (ab_dd tk_m_lists 6 rfl) rfl C_m_303 ?_
  refine x_callS 14 M_m_within 0 3 [_, _, _] (ab_dd tk_m_lists 7 rfl) rfl (by decide) K_m_within T_m_within L_m_159 rfl (Nat.le_of_ble_eq_true rfl) (w_inI 0 3 rfl rfl _) (fun v1 w1 h1 => ?_)
  obtain ⟨rfl, rfl⟩ := h1
  refine xb_if_eq 17 26 (ab_dd tk_m_lists 8 rfl) rfl (by decide) (fun h14 => ?_) (fun h14 => ?_)
  · refine x_bipush 28 (-2) (ab_dd tk_m_lists 14 rfl) rfl (by decide) ?_
    exact x_iret (ab_dd tk_m_lists 15 rfl) ⟨_, rfl, hm, hA, ((sEq.rf (l := 144 :: qL)).pI (by decide)), (fEq.pI (fEq.rf (S := S)) (Or.inr (by decide))), Or.inl ⟨fun z => h14 z.1, rfl, rfl⟩⟩
  · refine x_aload_n 18 0 (ab_dd tk_m_lists 9 rfl) rfl rfl rfl ?_
    refine x_iload_n 19 2 (ab_dd tk_m_lists 10 rfl) rfl rfl rfl ?_
    refine x_i2l 20 (ab_dd tk_m_lists 11 rfl) rfl ?_
    refine t_callV 23 M_m_isRider 1 1 [_] (ab_dd tk_m_lists 12 rfl) rfl (by decide) K_m_isRider V_m_isRider.1 V_m_isRider.2 L_m_258 rfl (Nat.le_of_ble_eq_true rfl) (by decide) (Nat.lt_of_lt_of_le (by decide) hm.1) (hm.2.1 0 (by decide)) rfl (w_isRider (by exact hm) (by exact hA) ha _) (fun v1 w1 h1 => ?_)
    obtain ⟨rfl, rfl⟩ := h1
    refine xb_if_ne 26 29 (ab_dd tk_m_lists 13 rfl) rfl (by decide) (fun h23 => ?_) (fun h23 => ?_)
    · refine x_aload_n 30 0 (ab_dd tk_m_lists 16 rfl) rfl rfl rfl ?_
      refine x_iload_n 31 1 (ab_dd tk_m_lists 17 rfl) rfl rfl rfl ?_
      refine t_callV 34 M_m_noTray 1 1 [_] (ab_dd tk_m_lists 18 rfl) rfl (by decide) K_m_noTray V_m_noTray.1 V_m_noTray.2 L_m_325 rfl (Nat.le_of_ble_eq_true rfl) (by decide) (Nat.lt_of_lt_of_le (by decide) hm.1) (hm.2.1 0 (by decide)) rfl (c_m_noTray (by exact hm) t) (fun v1 w1 h1 => ?_)
      obtain ⟨rfl, rfl⟩ := h1
      refine x_topi (fun v1 ev1 => ?_)
      refine x_istore_n 35 [some (.ref 120), some (.int t), some (.int r), some (.int v1), none] 3 (ab_dd tk_m_lists 19 rfl) rfl rfl (by decide) rfl ?_
      refine x_iload_n 36 3 (ab_dd tk_m_lists 20 rfl) rfl rfl rfl ?_
      refine x_if_eq 39 41 (ab_dd tk_m_lists 21 rfl) rfl (by decide) (fun h36 => ?_) (fun h36 => ?_)
      · have h0 : mNt S t = 0 := ev1.symm.trans h36
        obtain ⟨q, hq, et, eq⟩ := in_get (n := 3) (by decide) (nt_0 h0).1
        obtain ⟨c, ec, hc⟩ := ht q (by omega)
        obtain ⟨p, hp, erp, er⟩ := rid_get h23 hR4
        rw [show some (Value.int r) = some (Value.int (nI p)) by rw [erp], show some (Value.int t) = some (Value.int (nI q)) by rw [et]]
        refine x_aload_n 42 0 (ab_dd tk_m_lists 24 rfl) rfl rfl rfl ?_
        refine t_callV 45 M_m_laysRow 5 0 [] (ab_dd tk_m_lists 25 rfl) rfl (by decide) K_m_laysRow V_m_laysRow.1 V_m_laysRow.2 L_m_357 rfl (Nat.le_of_ble_eq_true rfl) (by decide) (Nat.lt_of_lt_of_le (by decide) hm.1) (hm.2.1 0 (by decide)) rfl (c_m_laysRow (by exact hm) (by exact hA) ha) (fun v1 w1 h1 => ?_)
        obtain ⟨rfl, U2, n0, t0, rfl, um2, uA2, uE2, uF2, hlas, h625, hrow, htail, hround⟩ := h1
        have ht0 := hlas.1
        refine x_iconst 46 0 (ab_dd tk_m_lists 26 rfl) rfl (by decide) (x_topn 0 rfl ?_)
        refine x_istore 48 [some (.ref 120), some (.int (nI q)), some (.int (nI p)), some (.int v1), some (.int (nI 0))] 4 (ab_dd tk_m_lists 27 rfl) rfl (by decide) rfl ?_
        exact go _ n0 t0 q c p _ hq eq ec hc hp er ⟨h14, h23⟩ h0 um2 uA2 (((sEq.rf (l := qL) (S := S)).pI (k := 0) (x := nI 0) (by decide)).tr (uE2.mono (by decide))) (fEq.t2 uF2 (by exact (fEq.pI (fEq.rf (S := S)) (Or.inr (by decide))))) hlas h625 hrow htail hround
      · refine x_iload_n 40 3 (ab_dd tk_m_lists 22 rfl) rfl rfl rfl ?_
        exact x_iret (ab_dd tk_m_lists 23 rfl) ⟨_, rfl, hm, hA, ((sEq.rf (l := 144 :: qL)).pI (by decide)), (fEq.pI (fEq.rf (S := S)) (Or.inr (by decide))), Or.inr (Or.inl ⟨⟨h14, h23⟩, fun z => h36 (ev1.trans z), by rw [ev1]; rfl, rfl⟩)⟩
    · refine x_bipush 28 (-2) (ab_dd tk_m_lists 14 rfl) rfl (by decide) ?_
      exact x_iret (ab_dd tk_m_lists 15 rfl) ⟨_, rfl, hm, hA, ((sEq.rf (l := 144 :: qL)).pI (by decide)), (fEq.pI (fEq.rf (S := S)) (Or.inr (by decide))), Or.inl ⟨fun z => h23 z.2, rfl, rfl⟩⟩
