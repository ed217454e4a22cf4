theorem sumF_b {f : Nat → Nat} {M : Nat} (h : ∀ i, f i ≤ M) : ∀ n, sumF f n ≤ n * M
  | 0 => Nat.zero_le _
  | n + 1 => by
    have := sumF_b h n
    have := h n
    show sumF f n + f n ≤ (n + 1) * M
    rw [Nat.add_mul, Nat.one_mul]; omega
theorem tot_le {nx : Nat → Nat} {R M : Nat} {F : Nat → Nat} (h : ∀ s, F s ≤ M) : ∀ n s, tot nx R F n s ≤ M * 10 ^ n
  | 0, s => by rw [Nat.pow_zero, Nat.mul_one]; exact h s
  | n + 1, s => by
    have := sumF_b (f := fun l => tot nx R F n (ltN R (nx s) l)) (fun l => tot_le h n (ltN R (nx s) l)) 10
    show sumF (fun l => tot nx R F n (ltN R (nx s) l)) 10 ≤ _
    rw [Nat.pow_succ, ← Nat.mul_assoc, Nat.mul_comm]
    rw [Nat.mul_comm 10] at this ⊢
    exact this
theorem p10 : ∀ n, n < 7 → 0 < 10 ^ n ∧ 10 ^ n ≤ 1000000 := by decide
def tb_m_chance : List (Nat × Instr × Nat) := [(0, .aload_n 0, 1), (1, .iconst 0, 1), (2, .putfield 1, 3), (5, .iload_n 3, 1), (6, .i2l, 1), (7, .lconst 0, 1), (8, .lconst 1, 1), (9, .invokestatic 159, 3), (12, .ifCond .ne 6, 3), (15, .bipush (-2), 2), (17, .ireturn, 1), (18, .iload_n 1, 1), (19, .invokestatic 365, 3), (22, .ifCond .eq 15, 3), (25, .iload_n 2, 1), (26, .i2l, 1), (27, .lconst 0, 1), (28, .ldc2_w 460, 3), (31, .invokestatic 159, 3), (34, .ifCond .ne 6, 3), (37, .bipush (-3), 2), (39, .ireturn, 1), (40, .aload_n 0, 1), (41, .iload_n 1, 1), (42, .iload_n 2, 1), (43, .invokevirtual 462, 3), (46, .aload_n 0, 1), (47, .getfield 445, 3), (50, .iload_n 2, 1), (51, .invokestatic 465, 3), (54, .iload_n 3, 1), (55, .invokestatic 469, 3), (58, .ireturn, 1)]
theorem tk_m_chance : ∀ q ∈ tb_m_chance, decode M_m_chance.2.1 q.1 = .ok q.2 := by decide +kernel
theorem c_m_chance {G : ab_G} {S : ab_S} {a : Nat → Int32} (hm : mSh S) (hA : mA S = a) (ha : aOk a) (k n x : Int32) : ab_C G 46 M_m_chance [.ref 120, .int k, .int n, .int x] (sw S) (pQ S (some (.int (if (0 ≤ x ∧ x ≤ 1) then (if (0 ≤ k ∧ k ≤ 4) ∧ (0 ≤ n ∧ n ≤ 6) then aPa (tot (aNx a) (aR a) (fWm a (cN k)) (cN n) (aE a)) (10 ^ cN n) x else -3) else -2)))) := by
  refine x_enter [some (.ref 120), some (.int k), some (.int n), some (.int x)] (by decide) (Nat.le_of_ble_eq_true rfl) rfl (fun v w' h => by obtain ⟨rfl, -⟩ := h; rfl) ?_
  refine x_aload_n 1 0 (ab_dd tk_m_chance 0 rfl) rfl rfl rfl ?_
  refine x_iconst 2 0 (ab_dd tk_m_chance 1 rfl) rfl (by decide) (x_topn 0 rfl ?_)
  refine t_putI 5 (ab_dd tk_m_chance 2 rfl) rfl F_m_1 (by decide) (Nat.lt_of_lt_of_le (by decide) hm.1) (hm.2.1 0 (by decide)) rfl rfl rfl ?_
  refine x_iload_n 6 3 (ab_dd tk_m_chance 3 rfl) rfl rfl rfl ?_
  refine x_i2l 7 (ab_dd tk_m_chance 4 rfl) rfl ?_
  refine x_lconst 8 0 (ab_dd tk_m_chance 5 rfl) rfl (by decide) ?_
  refine x_lconst 9 1 (ab_dd tk_m_chance 6 rfl) rfl (by decide) ?_
  refine x_callS 12 M_m_within 0 3 [_, _, _] (ab_dd tk_m_chance 7 rfl) rfl (by decide) K_m_within T_m_within L_m_159 rfl (Nat.le_of_ble_eq_true rfl) (w_inI 0 1 rfl rfl _) (fun v1 w1 h1 => ?_)
  obtain ⟨rfl, rfl⟩ := h1
  refine xb_if_ne 15 18 (ab_dd tk_m_chance 8 rfl) rfl (by decide) (fun h12 => ?_) (fun h12 => ?_)
  · refine x_iload_n 19 1 (ab_dd tk_m_chance 11 rfl) rfl rfl rfl ?_
    refine x_callS 22 M_m_isWarm 1 1 [_] (ab_dd tk_m_chance 12 rfl) rfl (by decide) K_m_isWarm T_m_isWarm L_m_365 rfl (Nat.le_of_ble_eq_true rfl) (c_m_isWarm _) (fun v1 w1 h1 => ?_)
    obtain ⟨rfl, rfl⟩ := h1
    refine xb_if_eq 25 37 (ab_dd tk_m_chance 13 rfl) rfl (by decide) (fun h22 => ?_) (fun h22 => ?_)
    · refine x_bipush 39 (-3) (ab_dd tk_m_chance 20 rfl) rfl (by decide) ?_
      exact x_iret (ab_dd tk_m_chance 21 rfl) ⟨rI ((if_pos h12).trans (if_neg (fun z => h22 z.1))).symm, _, rfl, hm, hA.trans hA.symm, ((sEq.rf (l := qL)).pI (by decide)), (fEq.pI (fEq.rf (S := S)) (Or.inr (by decide)))⟩
    · refine x_iload_n 26 2 (ab_dd tk_m_chance 14 rfl) rfl rfl rfl ?_
      refine x_i2l 27 (ab_dd tk_m_chance 15 rfl) rfl ?_
      refine x_lconst 28 0 (ab_dd tk_m_chance 16 rfl) rfl (by decide) ?_
      refine x_ldc2 31 (ab_dd tk_m_chance 17 rfl) rfl C_m_460 ?_
      refine x_callS 34 M_m_within 0 3 [_, _, _] (ab_dd tk_m_chance 18 rfl) rfl (by decide) K_m_within T_m_within L_m_159 rfl (Nat.le_of_ble_eq_true rfl) (w_inI 0 6 rfl rfl _) (fun v1 w1 h1 => ?_)
      obtain ⟨rfl, rfl⟩ := h1
      refine xb_if_ne 37 40 (ab_dd tk_m_chance 19 rfl) rfl (by decide) (fun h34 => ?_) (fun h34 => ?_)
      · obtain ⟨h, hh, ekh, ek⟩ := in_get (n := 4) (by decide) h22
        obtain ⟨nn, hnn, enn, en⟩ := in_get (n := 6) (by decide) h34
        rw [show some (Value.int k) = some (Value.int (nI h)) by rw [ekh], show some (Value.int n) = some (Value.int (nI nn)) by rw [enn]]
        refine x_aload_n 41 0 (ab_dd tk_m_chance 22 rfl) rfl rfl rfl ?_
        refine x_iload_n 42 1 (ab_dd tk_m_chance 23 rfl) rfl rfl rfl ?_
        refine x_iload_n 43 2 (ab_dd tk_m_chance 24 rfl) rfl rfl rfl ?_
        refine t_callV 46 M_m_laysLots (6 + nn) 2 [_, _] (ab_dd tk_m_chance 25 rfl) rfl (by omega) K_m_laysLots V_m_laysLots.1 V_m_laysLots.2 L_m_462 rfl (Nat.le_of_ble_eq_true rfl) (by decide) (Nat.lt_of_lt_of_le (by decide) hm.1) (hm.2.1 0 (by decide)) rfl (c_m_laysLots (by exact hm) (by exact hA) ha h nn hh hnn) (fun v1 w1 h1 => ?_)
        obtain ⟨rfl, U1, rfl, um1, uA1, uE1, uF1, u1, u2⟩ := h1
        obtain ⟨p1, p2⟩ := p10 nn (by omega)
        refine x_aload_n 47 0 (ab_dd tk_m_chance 26 rfl) rfl rfl rfl ?_
        refine t_getJ 50 (ab_dd tk_m_chance 27 rfl) rfl F_m_445 (by decide) (Nat.lt_of_lt_of_le (by decide) um1.1) (um1.2.1 0 (by decide)) rfl (x_topL (lN (tot (aNx a) (aR a) (fWm a h) nn (aE a))) u1 ?_)
        refine x_iload_n 51 2 (ab_dd tk_m_chance 28 rfl) rfl rfl rfl ?_
        refine x_callS 54 M_m_wholeOf 0 1 [_] (ab_dd tk_m_chance 29 rfl) rfl (by decide) K_m_wholeOf T_m_wholeOf L_m_465 rfl (Nat.le_of_ble_eq_true rfl) (c_m_wholeOf nn hnn) (fun v1 w1 h1 => ?_)
        obtain ⟨rfl, rfl⟩ := h1
        refine x_iload_n 55 3 (ab_dd tk_m_chance 30 rfl) rfl rfl rfl ?_
        refine x_callS 58 M_m_part 45 3 [_, _, _] (ab_dd tk_m_chance 31 rfl) rfl (by decide) K_m_part T_m_part L_m_469 rfl (Nat.le_of_ble_eq_true rfl) (c_m_part (tot (aNx a) (aR a) (fWm a h) nn (aE a)) (10 ^ nn) _ (by have := tot_le (nx := aNx a) (R := aR a) (F := fWm a h) (M := 1) (fun s => by show (if _ then 1 else 0) ≤ 1; split <;> decide) nn (aE a); omega) (by omega) p1) (fun v1 w1 h1 => ?_)
        obtain ⟨rfl, rfl⟩ := h1
        exact x_iret (ab_dd tk_m_chance 32 rfl) ⟨rI (by rw [if_pos h12, if_pos ⟨h22, h34⟩, ek, en]), _, rfl, um1, uA1.trans hA.symm, (((sEq.rf (l := qL)).pI (by decide)).tr (uE1.mono (by decide))), (fEq.t2 uF1 (by exact (fEq.pI (fEq.rf (S := S)) (Or.inr (by decide)))))⟩
      · refine x_bipush 39 (-3) (ab_dd tk_m_chance 20 rfl) rfl (by decide) ?_
        exact x_iret (ab_dd tk_m_chance 21 rfl) ⟨rI ((if_pos h12).trans (if_neg (fun z => h34 z.2))).symm, _, rfl, hm, hA.trans hA.symm, ((sEq.rf (l := qL)).pI (by decide)), (fEq.pI (fEq.rf (S := S)) (Or.inr (by decide)))⟩
  · refine x_bipush 17 (-2) (ab_dd tk_m_chance 9 rfl) rfl (by decide) ?_
    exact x_iret (ab_dd tk_m_chance 10 rfl) ⟨rI (if_neg h12).symm, _, rfl, hm, hA.trans hA.symm, ((sEq.rf (l := qL)).pI (by decide)), (fEq.pI (fEq.rf (S := S)) (Or.inr (by decide)))⟩
def tb_m_mean : List (Nat × Instr × Nat) := [(0, .aload_n 0, 1), (1, .iconst 0, 1), (2, .putfield 1, 3), (5, .iload_n 2, 1), (6, .i2l, 1), (7, .lconst 0, 1), (8, .lconst 1, 1), (9, .invokestatic 159, 3), (12, .ifCond .ne 6, 3), (15, .bipush (-2), 2), (17, .ireturn, 1), (18, .iload_n 1, 1), (19, .i2l, 1), (20, .lconst 0, 1), (21, .ldc2_w 460, 3), (24, .invokestatic 159, 3), (27, .ifCond .ne 6, 3), (30, .bipush (-3), 2), (32, .ireturn, 1), (33, .aload_n 0, 1), (34, .iconst 0, 1), (35, .iload_n 1, 1), (36, .invokevirtual 462, 3), (39, .aload_n 0, 1), (40, .getfield 449, 3), (43, .iload_n 1, 1), (44, .invokestatic 465, 3), (47, .iload_n 2, 1), (48, .invokestatic 469, 3), (51, .ireturn, 1)]
theorem tk_m_mean : ∀ q ∈ tb_m_mean, decode M_m_mean.2.1 q.1 = .ok q.2 := by decide +kernel
theorem c_m_mean {G : ab_G} {S : ab_S} {a : Nat → Int32} (hm : mSh S) (hA : mA S = a) (ha : aOk a) (n x : Int32) : ab_C G 46 M_m_mean [.ref 120, .int n, .int x] (sw S) (pQ S (some (.int (if (0 ≤ x ∧ x ≤ 1) then (if (0 ≤ n ∧ n ≤ 6) then aPa (tot (aNx a) (aR a) (fSm a) (cN n) (aE a)) (10 ^ cN n) x else -3) else -2)))) := by
  refine x_enter [some (.ref 120), some (.int n), some (.int x)] (by decide) (Nat.le_of_ble_eq_true rfl) rfl (fun v w' h => by obtain ⟨rfl, -⟩ := h; rfl) ?_
  refine x_aload_n 1 0 (ab_dd tk_m_mean 0 rfl) rfl rfl rfl ?_
  refine x_iconst 2 0 (ab_dd tk_m_mean 1 rfl) rfl (by decide) (x_topn 0 rfl ?_)
  refine t_putI 5 (ab_dd tk_m_mean 2 rfl) rfl F_m_1 (by decide) (Nat.lt_of_lt_of_le (by decide) hm.1) (hm.2.1 0 (by decide)) rfl rfl rfl ?_
  refine x_iload_n 6 2 (ab_dd tk_m_mean 3 rfl) rfl rfl rfl ?_
  refine x_i2l 7 (ab_dd tk_m_mean 4 rfl) rfl ?_
  refine x_lconst 8 0 (ab_dd tk_m_mean 5 rfl) rfl (by decide) ?_
  refine x_lconst 9 1 (ab_dd tk_m_mean 6 rfl) rfl (by decide) ?_
  refine x_callS 12 M_m_within 0 3 [_, _, _] (ab_dd tk_m_mean 7 rfl) rfl (by decide) K_m_within T_m_within L_m_159 rfl (Nat.le_of_ble_eq_true rfl) (w_inI 0 1 rfl rfl _) (fun v1 w1 h1 => ?_)
  obtain ⟨rfl, rfl⟩ := h1
  refine xb_if_ne 15 18 (ab_dd tk_m_mean 8 rfl) rfl (by decide) (fun h12 => ?_) (fun h12 => ?_)
  · refine x_iload_n 19 1 (ab_dd tk_m_mean 11 rfl) rfl rfl rfl ?_
    refine x_i2l 20 (ab_dd tk_m_mean 12 rfl) rfl ?_
    refine x_lconst 21 0 (ab_dd tk_m_mean 13 rfl) rfl (by decide) ?_
    refine x_ldc2 24 (ab_dd tk_m_mean 14 rfl) rfl C_m_460 ?_
    refine x_callS 27 M_m_within 0 3 [_, _, _] (ab_dd tk_m_mean 15 rfl) rfl (by decide) K_m_within T_m_within L_m_159 rfl (Nat.le_of_ble_eq_true rfl) (w_inI 0 6 rfl rfl _) (fun v1 w1 h1 => ?_)
    obtain ⟨rfl, rfl⟩ := h1
    refine xb_if_ne 30 33 (ab_dd tk_m_mean 16 rfl) rfl (by decide) (fun h27 => ?_) (fun h27 => ?_)
    · obtain ⟨nn, hnn, enn, en⟩ := in_get (n := 6) (by decide) h27
      rw [show some (Value.int n) = some (Value.int (nI nn)) by rw [enn]]
      refine x_aload_n 34 0 (ab_dd tk_m_mean 19 rfl) rfl rfl rfl ?_
      refine x_iconst 35 0 (ab_dd tk_m_mean 20 rfl) rfl (by decide) (x_topn 0 rfl ?_)
      refine x_iload_n 36 1 (ab_dd tk_m_mean 21 rfl) rfl rfl rfl ?_
      refine t_callV 39 M_m_laysLots (6 + nn) 2 [_, _] (ab_dd tk_m_mean 22 rfl) rfl (by omega) K_m_laysLots V_m_laysLots.1 V_m_laysLots.2 L_m_462 rfl (Nat.le_of_ble_eq_true rfl) (by decide) (Nat.lt_of_lt_of_le (by decide) hm.1) (hm.2.1 0 (by decide)) rfl (c_m_laysLots (by exact hm) (by exact hA) ha 0 nn (by decide) hnn) (fun v1 w1 h1 => ?_)
      obtain ⟨rfl, U1, rfl, um1, uA1, uE1, uF1, u1, u2⟩ := h1
      obtain ⟨p1, p2⟩ := p10 nn (by omega)
      refine x_aload_n 40 0 (ab_dd tk_m_mean 23 rfl) rfl rfl rfl ?_
      refine t_getJ 43 (ab_dd tk_m_mean 24 rfl) rfl F_m_449 (by decide) (Nat.lt_of_lt_of_le (by decide) um1.1) (um1.2.1 0 (by decide)) rfl (x_topL (lN (tot (aNx a) (aR a) (fSm a) nn (aE a))) u2 ?_)
      refine x_iload_n 44 1 (ab_dd tk_m_mean 25 rfl) rfl rfl rfl ?_
      refine x_callS 47 M_m_wholeOf 0 1 [_] (ab_dd tk_m_mean 26 rfl) rfl (by decide) K_m_wholeOf T_m_wholeOf L_m_465 rfl (Nat.le_of_ble_eq_true rfl) (c_m_wholeOf nn hnn) (fun v1 w1 h1 => ?_)
      obtain ⟨rfl, rfl⟩ := h1
      refine x_iload_n 48 2 (ab_dd tk_m_mean 27 rfl) rfl rfl rfl ?_
      refine x_callS 51 M_m_part 45 3 [_, _, _] (ab_dd tk_m_mean 28 rfl) rfl (by decide) K_m_part T_m_part L_m_469 rfl (Nat.le_of_ble_eq_true rfl) (c_m_part (tot (aNx a) (aR a) (fSm a) nn (aE a)) (10 ^ nn) _ (by have := tot_le (nx := aNx a) (R := aR a) (F := fSm a) (M := 16) (fun s => by have := mSu_le s (aR a); have := ha.R.2; show mSu s (aR a) ≤ 16; omega) nn (aE a); omega) (by omega) p1) (fun v1 w1 h1 => ?_)
      obtain ⟨rfl, rfl⟩ := h1
      exact x_iret (ab_dd tk_m_mean 29 rfl) ⟨rI (by rw [if_pos h12, if_pos h27, en]), _, rfl, um1, uA1.trans hA.symm, (((sEq.rf (l := qL)).pI (by decide)).tr (uE1.mono (by decide))), (fEq.t2 uF1 (by exact (fEq.pI (fEq.rf (S := S)) (Or.inr (by decide)))))⟩
    · refine x_bipush 32 (-3) (ab_dd tk_m_mean 17 rfl) rfl (by decide) ?_
      exact x_iret (ab_dd tk_m_mean 18 rfl) ⟨rI ((if_pos h12).trans (if_neg h27)).symm, _, rfl, hm, hA.trans hA.symm, ((sEq.rf (l := qL)).pI (by decide)), (fEq.pI (fEq.rf (S := S)) (Or.inr (by decide)))⟩
  · refine x_bipush 17 (-2) (ab_dd tk_m_mean 9 rfl) rfl (by decide) ?_
    exact x_iret (ab_dd tk_m_mean 10 rfl) ⟨rI (if_neg h12).symm, _, rfl, hm, hA.trans hA.symm, ((sEq.rf (l := qL)).pI (by decide)), (fEq.pI (fEq.rf (S := S)) (Or.inr (by decide)))⟩
