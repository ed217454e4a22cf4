theorem pW_lt {la k w : Nat} (h : pW la k = some w) : w < 9 ∧ (la = 1 → w < 6) := by
  unfold pW at h
  split at h; (· cases h; omega)
  split at h; (· cases h; omega)
  split at h; (· cases h; omega)
  split at h; (· cases h; omega)
  split at h; (· cases h; omega)
  split at h; (· cases h; omega)
  split at h
  · cases h
    omega
  · cases h
theorem nI_m1 {k : Nat} (h : k < 2 ^ 31) : ¬ nI k = -1 := by
  intro z
  have h1 := nI_toInt h
  rw [z] at h1
  have : ((-1 : Int32).toInt) = -1 := by decide
  omega
def tb_m_readAtom : List (Nat × Instr × Nat) := [(0, .aload_n 0, 1), (1, .bipush 23, 2), (3, .invokevirtual 149, 3), (6, .ifCond .eq 18, 3), (9, .aload_n 0, 1), (10, .aload_n 0, 1), (11, .getfield 138, 3), (14, .invokevirtual 166, 3), (17, .aload_n 0, 1), (18, .invokevirtual 152, 3), (21, .goto 109, 3), (24, .aload_n 0, 1), (25, .getfield 143, 3), (28, .ifCond .ne 38, 3), (31, .aload_n 0, 1), (32, .aload_n 0, 1), (33, .getfield 125, 3), (36, .invokevirtual 169, 3), (39, .iconst (-1), 1), (40, .if_icmp .eq 26, 3), (43, .aload_n 0, 1), (44, .sipush 1000, 3), (47, .aload_n 0, 1), (48, .aload_n 0, 1), (49, .getfield 125, 3), (52, .invokevirtual 169, 3), (55, .iadd, 1), (56, .invokevirtual 166, 3), (59, .aload_n 0, 1), (60, .invokevirtual 152, 3), (63, .goto 67, 3), (66, .aload_n 0, 1), (67, .bipush 35, 2), (69, .invokevirtual 149, 3), (72, .ifCond .eq 36, 3), (75, .aload_n 0, 1), (76, .iload_n 1, 1), (77, .invokevirtual 172, 3), (80, .ifCond .ne 4, 3), (83, .return_, 1), (84, .aload_n 0, 1), (85, .iload_n 1, 1), (86, .iconst 1, 1), (87, .iadd, 1), (88, .invokevirtual 175, 3), (91, .aload_n 0, 1), (92, .bipush 36, 2), (94, .invokevirtual 178, 3), (97, .ifCond .ne 33, 3), (100, .aload_n 0, 1), (101, .iconst 2, 1), (102, .invokevirtual 155, 3), (105, .goto 25, 3), (108, .aload_n 0, 1), (109, .bipush 9, 2), (111, .invokevirtual 149, 3), (114, .ifCond .eq 11, 3), (117, .aload_n 0, 1), (118, .iload_n 1, 1), (119, .invokevirtual 181, 3), (122, .goto 8, 3), (125, .aload_n 0, 1), (126, .iconst 2, 1), (127, .invokevirtual 155, 3), (130, .return_, 1)]
theorem tk_m_readAtom : ∀ q ∈ tb_m_readAtom, decode M_m_readAtom.2.1 q.1 = .ok q.2 := by decide +kernel
theorem D_readAtom {G : ab_G} {S : ab_S} {e : Nat × Nat} (hD : rD S e) (x : Int32) : ab_C G 7 M_m_readAtom [.ref 120, .int x] (sw S) (fun v w' => v = none ∧ w' = sw S) := by
  refine x_enter [some (.ref 120), some (.int x)] (by decide) (Nat.le_of_ble_eq_true rfl) rfl (fun v w' h => by obtain ⟨rfl, rfl⟩ := h; trivial) ?_
  have hu := hD.2.2.2
  refine x_aload_n 1 0 (ab_dd tk_m_readAtom 0 rfl) rfl rfl rfl ?_
  refine x_bipush 3 23 (ab_dd tk_m_readAtom 1 rfl) rfl (by decide) (x_topn 23 rfl ?_)
  refine t_callV 6 M_m_is 0 1 [_] (ab_dd tk_m_readAtom 2 rfl) rfl (by first | decide | omega) K_m_is V_m_is.1 V_m_is.2 L_m_149 rfl (Nat.le_of_ble_eq_true rfl) (by decide) (Nat.lt_of_lt_of_le (by decide) hD.1.1) (hD.1.2.1 0 (by decide)) rfl (D_is hD _) (fun v1 w1 h1 => ?_)
  obtain ⟨rfl, rfl⟩ := h1
  refine x_if_eq_t 24 (ab_dd tk_m_readAtom 3 rfl) (by decide) (by decide) ?_
  refine x_aload_n 25 0 (ab_dd tk_m_readAtom 11 rfl) rfl rfl rfl ?_
  refine t_getI 28 (ab_dd tk_m_readAtom 12 rfl) rfl F_m_143 (by decide) (Nat.lt_of_lt_of_le (by decide) hD.1.1) (hD.1.2.1 0 (by decide)) rfl (x_topn e.1 hD.2.1 ?_)
  refine x_if_ne_t 66 (ab_dd tk_m_readAtom 13 rfl) (by decide) (fun z => absurd ((nI_eq (a := e.1) (b := 0) (by omega) (by omega)).mp z) (show ¬ (e.1 = 0) by omega)) ?_
  refine x_aload_n 67 0 (ab_dd tk_m_readAtom 31 rfl) rfl rfl rfl ?_
  refine x_bipush 69 35 (ab_dd tk_m_readAtom 32 rfl) rfl (by decide) (x_topn 35 rfl ?_)
  refine t_callV 72 M_m_is 0 1 [_] (ab_dd tk_m_readAtom 33 rfl) rfl (by first | decide | omega) K_m_is V_m_is.1 V_m_is.2 L_m_149 rfl (Nat.le_of_ble_eq_true rfl) (by decide) (Nat.lt_of_lt_of_le (by decide) hD.1.1) (hD.1.2.1 0 (by decide)) rfl (D_is hD _) (fun v1 w1 h1 => ?_)
  obtain ⟨rfl, rfl⟩ := h1
  refine x_if_eq_t 108 (ab_dd tk_m_readAtom 34 rfl) (by decide) (by decide) ?_
  refine x_aload_n 109 0 (ab_dd tk_m_readAtom 53 rfl) rfl rfl rfl ?_
  refine x_bipush 111 9 (ab_dd tk_m_readAtom 54 rfl) rfl (by decide) (x_topn 9 rfl ?_)
  refine t_callV 114 M_m_is 0 1 [_] (ab_dd tk_m_readAtom 55 rfl) rfl (by first | decide | omega) K_m_is V_m_is.1 V_m_is.2 L_m_149 rfl (Nat.le_of_ble_eq_true rfl) (by decide) (Nat.lt_of_lt_of_le (by decide) hD.1.1) (hD.1.2.1 0 (by decide)) rfl (D_is hD _) (fun v1 w1 h1 => ?_)
  obtain ⟨rfl, rfl⟩ := h1
  refine x_if_eq_t 125 (ab_dd tk_m_readAtom 56 rfl) (by decide) (by decide) ?_
  refine x_aload_n 126 0 (ab_dd tk_m_readAtom 61 rfl) rfl rfl rfl ?_
  refine x_iconst 127 2 (ab_dd tk_m_readAtom 62 rfl) rfl (by decide) (x_topn 2 rfl ?_)
  refine t_callV 130 M_m_fails 0 1 [_] (ab_dd tk_m_readAtom 63 rfl) rfl (by first | decide | omega) K_m_fails V_m_fails.1 V_m_fails.2 L_m_155 rfl (Nat.le_of_ble_eq_true rfl) (by decide) (Nat.lt_of_lt_of_le (by decide) hD.1.1) (hD.1.2.1 0 (by decide)) rfl (D_fails hD _) (fun v1 w1 h1 => ?_)
  obtain ⟨rfl, rfl⟩ := h1
  exact x_vret (ab_dd tk_m_readAtom 64 rfl) ⟨rfl, rfl⟩
def tb_m_readTerm : List (Nat × Instr × Nat) := [(0, .aload_n 0, 1), (1, .iload_n 1, 1), (2, .invokevirtual 187, 3), (5, .aload_n 0, 1), (6, .bipush 34, 2), (8, .invokevirtual 178, 3), (11, .ifCond .eq 18, 3), (14, .aload_n 0, 1), (15, .iload_n 1, 1), (16, .invokevirtual 187, 3), (19, .aload_n 0, 1), (20, .sipush 3002, 3), (23, .invokevirtual 166, 3), (26, .goto (-21), 3), (29, .return_, 1)]
theorem tk_m_readTerm : ∀ q ∈ tb_m_readTerm, decode M_m_readTerm.2.1 q.1 = .ok q.2 := by decide +kernel
theorem D_readTerm {G : ab_G} {S : ab_S} {e : Nat × Nat} (hD : rD S e) (x : Int32) : ab_C G 8 M_m_readTerm [.ref 120, .int x] (sw S) (fun v w' => v = none ∧ w' = sw S) := by
  refine x_enter [some (.ref 120), some (.int x)] (by decide) (Nat.le_of_ble_eq_true rfl) rfl (fun v w' h => by obtain ⟨rfl, rfl⟩ := h; trivial) ?_
  have hu := hD.2.2.2
  refine x_aload_n 1 0 (ab_dd tk_m_readTerm 0 rfl) rfl rfl rfl ?_
  refine x_iload_n 2 1 (ab_dd tk_m_readTerm 1 rfl) rfl rfl rfl ?_
  refine t_callV 5 M_m_readAtom 7 1 [_] (ab_dd tk_m_readTerm 2 rfl) rfl (by decide) K_m_readAtom V_m_readAtom.1 V_m_readAtom.2 L_m_187 rfl (Nat.le_of_ble_eq_true rfl) (by decide) (Nat.lt_of_lt_of_le (by decide) hD.1.1) (hD.1.2.1 0 (by decide)) rfl (D_readAtom hD _) (fun v1 w1 h1 => ?_)
  obtain ⟨rfl, rfl⟩ := h1
  refine x_aload_n 6 0 (ab_dd tk_m_readTerm 3 rfl) rfl rfl rfl ?_
  refine x_bipush 8 34 (ab_dd tk_m_readTerm 4 rfl) rfl (by decide) (x_topn 34 rfl ?_)
  refine t_callV 11 M_m_eats 6 1 [_] (ab_dd tk_m_readTerm 5 rfl) rfl (by first | decide | omega) K_m_eats V_m_eats.1 V_m_eats.2 L_m_178 rfl (Nat.le_of_ble_eq_true rfl) (by decide) (Nat.lt_of_lt_of_le (by decide) hD.1.1) (hD.1.2.1 0 (by decide)) rfl (D_eats hD _) (fun v1 w1 h1 => ?_)
  obtain ⟨rfl, rfl⟩ := h1
  refine x_if_eq_t 29 (ab_dd tk_m_readTerm 6 rfl) (by decide) (by decide) ?_
  exact x_vret (ab_dd tk_m_readTerm 14 rfl) ⟨rfl, rfl⟩
def tb_m_readSum : List (Nat × Instr × Nat) := [(0, .aload_n 0, 1), (1, .iload_n 1, 1), (2, .invokevirtual 190, 3), (5, .aload_n 0, 1), (6, .bipush 32, 2), (8, .invokevirtual 149, 3), (11, .ifCond .ne 12, 3), (14, .aload_n 0, 1), (15, .bipush 33, 2), (17, .invokevirtual 149, 3), (20, .ifCond .eq 39, 3), (23, .aload_n 0, 1), (24, .getfield 125, 3), (27, .bipush 32, 2), (29, .if_icmp .ne 9, 3), (32, .sipush 3000, 3), (35, .goto 6, 3), (38, .sipush 3001, 3), (41, .istore_n 2, 1), (42, .aload_n 0, 1), (43, .invokevirtual 152, 3), (46, .aload_n 0, 1), (47, .iload_n 1, 1), (48, .invokevirtual 190, 3), (51, .aload_n 0, 1), (52, .iload_n 2, 1), (53, .invokevirtual 166, 3), (56, .goto (-51), 3), (59, .return_, 1)]
theorem tk_m_readSum : ∀ q ∈ tb_m_readSum, decode M_m_readSum.2.1 q.1 = .ok q.2 := by decide +kernel
theorem D_readSum {G : ab_G} {S : ab_S} {e : Nat × Nat} (hD : rD S e) (x : Int32) : ab_C G 9 M_m_readSum [.ref 120, .int x] (sw S) (fun v w' => v = none ∧ w' = sw S) := by
  refine x_enter [some (.ref 120), some (.int x), none] (by decide) (Nat.le_of_ble_eq_true rfl) rfl (fun v w' h => by obtain ⟨rfl, rfl⟩ := h; trivial) ?_
  have hu := hD.2.2.2
  refine x_aload_n 1 0 (ab_dd tk_m_readSum 0 rfl) rfl rfl rfl ?_
  refine x_iload_n 2 1 (ab_dd tk_m_readSum 1 rfl) rfl rfl rfl ?_
  refine t_callV 5 M_m_readTerm 8 1 [_] (ab_dd tk_m_readSum 2 rfl) rfl (by decide) K_m_readTerm V_m_readTerm.1 V_m_readTerm.2 L_m_190 rfl (Nat.le_of_ble_eq_true rfl) (by decide) (Nat.lt_of_lt_of_le (by decide) hD.1.1) (hD.1.2.1 0 (by decide)) rfl (D_readTerm hD _) (fun v1 w1 h1 => ?_)
  obtain ⟨rfl, rfl⟩ := h1
  refine x_aload_n 6 0 (ab_dd tk_m_readSum 3 rfl) rfl rfl rfl ?_
  refine x_bipush 8 32 (ab_dd tk_m_readSum 4 rfl) rfl (by decide) (x_topn 32 rfl ?_)
  refine t_callV 11 M_m_is 0 1 [_] (ab_dd tk_m_readSum 5 rfl) rfl (by first | decide | omega) K_m_is V_m_is.1 V_m_is.2 L_m_149 rfl (Nat.le_of_ble_eq_true rfl) (by decide) (Nat.lt_of_lt_of_le (by decide) hD.1.1) (hD.1.2.1 0 (by decide)) rfl (D_is hD _) (fun v1 w1 h1 => ?_)
  obtain ⟨rfl, rfl⟩ := h1
  refine x_if_ne_f 14 (ab_dd tk_m_readSum 6 rfl) rfl 23 (by decide) (by decide) ?_
  refine x_aload_n 15 0 (ab_dd tk_m_readSum 7 rfl) rfl rfl rfl ?_
  refine x_bipush 17 33 (ab_dd tk_m_readSum 8 rfl) rfl (by decide) (x_topn 33 rfl ?_)
  refine t_callV 20 M_m_is 0 1 [_] (ab_dd tk_m_readSum 9 rfl) rfl (by first | decide | omega) K_m_is V_m_is.1 V_m_is.2 L_m_149 rfl (Nat.le_of_ble_eq_true rfl) (by decide) (Nat.lt_of_lt_of_le (by decide) hD.1.1) (hD.1.2.1 0 (by decide)) rfl (D_is hD _) (fun v1 w1 h1 => ?_)
  obtain ⟨rfl, rfl⟩ := h1
  refine x_if_eq_t 59 (ab_dd tk_m_readSum 10 rfl) (by decide) (by decide) ?_
  exact x_vret (ab_dd tk_m_readSum 28 rfl) ⟨rfl, rfl⟩
def tb_m_readUnit : List (Nat × Instr × Nat) := [(0, .aload_n 0, 1), (1, .bipush 20, 2), (3, .invokevirtual 149, 3), (6, .ifCond .eq 27, 3), (9, .aload_n 0, 1), (10, .iload_n 1, 1), (11, .invokevirtual 172, 3), (14, .ifCond .ne 4, 3), (17, .return_, 1), (18, .aload_n 0, 1), (19, .iload_n 1, 1), (20, .iconst 1, 1), (21, .iadd, 1), (22, .invokevirtual 193, 3), (25, .aload_n 0, 1), (26, .sipush 3006, 3), (29, .invokevirtual 166, 3), (32, .return_, 1), (33, .aload_n 0, 1), (34, .bipush 37, 2), (36, .invokevirtual 149, 3), (39, .ifCond .eq 34, 3), (42, .aload_n 0, 1), (43, .iload_n 1, 1), (44, .invokevirtual 172, 3), (47, .ifCond .ne 4, 3), (50, .return_, 1), (51, .aload_n 0, 1), (52, .iload_n 1, 1), (53, .iconst 1, 1), (54, .iadd, 1), (55, .invokevirtual 184, 3), (58, .aload_n 0, 1), (59, .bipush 38, 2), (61, .invokevirtual 178, 3), (64, .ifCond .ne 8, 3), (67, .aload_n 0, 1), (68, .iconst 2, 1), (69, .invokevirtual 155, 3), (72, .return_, 1), (73, .aload_n 0, 1), (74, .iload_n 1, 1), (75, .invokevirtual 175, 3), (78, .aload_n 0, 1), (79, .bipush 39, 2), (81, .invokevirtual 149, 3), (84, .ifCond .eq 9, 3), (87, .sipush 3003, 3), (90, .goto 21, 3), (93, .aload_n 0, 1), (94, .bipush 40, 2), (96, .invokevirtual 149, 3), (99, .ifCond .eq 9, 3), (102, .sipush 3004, 3), (105, .goto 6, 3), (108, .sipush 3005, 3), (111, .istore_n 2, 1), (112, .aload_n 0, 1), (113, .bipush 39, 2), (115, .invokevirtual 149, 3), (118, .ifCond .ne 21, 3), (121, .aload_n 0, 1), (122, .bipush 40, 2), (124, .invokevirtual 149, 3), (127, .ifCond .ne 12, 3), (130, .aload_n 0, 1), (131, .bipush 41, 2), (133, .invokevirtual 149, 3), (136, .ifCond .eq 10, 3), (139, .aload_n 0, 1), (140, .invokevirtual 152, 3), (143, .goto 8, 3), (146, .aload_n 0, 1), (147, .iconst 2, 1), (148, .invokevirtual 155, 3), (151, .aload_n 0, 1), (152, .iload_n 1, 1), (153, .invokevirtual 175, 3), (156, .aload_n 0, 1), (157, .iload_n 2, 1), (158, .invokevirtual 166, 3), (161, .return_, 1)]
theorem tk_m_readUnit : ∀ q ∈ tb_m_readUnit, decode M_m_readUnit.2.1 q.1 = .ok q.2 := by decide +kernel
theorem D_readUnit {G : ab_G} {S : ab_S} {e : Nat × Nat} (hD : rD S e) (x : Int32) : ab_C G 10 M_m_readUnit [.ref 120, .int x] (sw S) (fun v w' => v = none ∧ w' = sw S) := by
  refine x_enter [some (.ref 120), some (.int x), none] (by decide) (Nat.le_of_ble_eq_true rfl) rfl (fun v w' h => by obtain ⟨rfl, rfl⟩ := h; trivial) ?_
  have hu := hD.2.2.2
  refine x_aload_n 1 0 (ab_dd tk_m_readUnit 0 rfl) rfl rfl rfl ?_
  refine x_bipush 3 20 (ab_dd tk_m_readUnit 1 rfl) rfl (by decide) (x_topn 20 rfl ?_)
  refine t_callV 6 M_m_is 0 1 [_] (ab_dd tk_m_readUnit 2 rfl) rfl (by first | decide | omega) K_m_is V_m_is.1 V_m_is.2 L_m_149 rfl (Nat.le_of_ble_eq_true rfl) (by decide) (Nat.lt_of_lt_of_le (by decide) hD.1.1) (hD.1.2.1 0 (by decide)) rfl (D_is hD _) (fun v1 w1 h1 => ?_)
  obtain ⟨rfl, rfl⟩ := h1
  refine x_if_eq_t 33 (ab_dd tk_m_readUnit 3 rfl) (by decide) (by decide) ?_
  refine x_aload_n 34 0 (ab_dd tk_m_readUnit 18 rfl) rfl rfl rfl ?_
  refine x_bipush 36 37 (ab_dd tk_m_readUnit 19 rfl) rfl (by decide) (x_topn 37 rfl ?_)
  refine t_callV 39 M_m_is 0 1 [_] (ab_dd tk_m_readUnit 20 rfl) rfl (by first | decide | omega) K_m_is V_m_is.1 V_m_is.2 L_m_149 rfl (Nat.le_of_ble_eq_true rfl) (by decide) (Nat.lt_of_lt_of_le (by decide) hD.1.1) (hD.1.2.1 0 (by decide)) rfl (D_is hD _) (fun v1 w1 h1 => ?_)
  obtain ⟨rfl, rfl⟩ := h1
  refine x_if_eq_t 73 (ab_dd tk_m_readUnit 21 rfl) (by decide) (by decide) ?_
  refine x_aload_n 74 0 (ab_dd tk_m_readUnit 40 rfl) rfl rfl rfl ?_
  refine x_iload_n 75 1 (ab_dd tk_m_readUnit 41 rfl) rfl rfl rfl ?_
  refine t_callV 78 M_m_readSum 9 1 [_] (ab_dd tk_m_readUnit 42 rfl) rfl (by decide) K_m_readSum V_m_readSum.1 V_m_readSum.2 L_m_175 rfl (Nat.le_of_ble_eq_true rfl) (by decide) (Nat.lt_of_lt_of_le (by decide) hD.1.1) (hD.1.2.1 0 (by decide)) rfl (D_readSum hD _) (fun v1 w1 h1 => ?_)
  obtain ⟨rfl, rfl⟩ := h1
  refine x_aload_n 79 0 (ab_dd tk_m_readUnit 43 rfl) rfl rfl rfl ?_
  refine x_bipush 81 39 (ab_dd tk_m_readUnit 44 rfl) rfl (by decide) (x_topn 39 rfl ?_)
  refine t_callV 84 M_m_is 0 1 [_] (ab_dd tk_m_readUnit 45 rfl) rfl (by first | decide | omega) K_m_is V_m_is.1 V_m_is.2 L_m_149 rfl (Nat.le_of_ble_eq_true rfl) (by decide) (Nat.lt_of_lt_of_le (by decide) hD.1.1) (hD.1.2.1 0 (by decide)) rfl (D_is hD _) (fun v1 w1 h1 => ?_)
  obtain ⟨rfl, rfl⟩ := h1
  refine x_if_eq_t 93 (ab_dd tk_m_readUnit 46 rfl) (by decide) (by decide) ?_
  refine x_aload_n 94 0 (ab_dd tk_m_readUnit 49 rfl) rfl rfl rfl ?_
  refine x_bipush 96 40 (ab_dd tk_m_readUnit 50 rfl) rfl (by decide) (x_topn 40 rfl ?_)
  refine t_callV 99 M_m_is 0 1 [_] (ab_dd tk_m_readUnit 51 rfl) rfl (by first | decide | omega) K_m_is V_m_is.1 V_m_is.2 L_m_149 rfl (Nat.le_of_ble_eq_true rfl) (by decide) (Nat.lt_of_lt_of_le (by decide) hD.1.1) (hD.1.2.1 0 (by decide)) rfl (D_is hD _) (fun v1 w1 h1 => ?_)
  obtain ⟨rfl, rfl⟩ := h1
  refine x_if_eq_t 108 (ab_dd tk_m_readUnit 52 rfl) (by decide) (by decide) ?_
  refine x_sipush 111 3005 (ab_dd tk_m_readUnit 55 rfl) rfl (by decide) (x_topn 3005 rfl ?_)
  refine x_istore_n 112 [some (.ref 120), some (.int x), some (.int (nI 3005))] 2 (ab_dd tk_m_readUnit 56 rfl) rfl rfl (by decide) rfl ?_
  refine x_aload_n 113 0 (ab_dd tk_m_readUnit 57 rfl) rfl rfl rfl ?_
  refine x_bipush 115 39 (ab_dd tk_m_readUnit 58 rfl) rfl (by decide) (x_topn 39 rfl ?_)
  refine t_callV 118 M_m_is 0 1 [_] (ab_dd tk_m_readUnit 59 rfl) rfl (by first | decide | omega) K_m_is V_m_is.1 V_m_is.2 L_m_149 rfl (Nat.le_of_ble_eq_true rfl) (by decide) (Nat.lt_of_lt_of_le (by decide) hD.1.1) (hD.1.2.1 0 (by decide)) rfl (D_is hD _) (fun v1 w1 h1 => ?_)
  obtain ⟨rfl, rfl⟩ := h1
  refine x_if_ne_f 121 (ab_dd tk_m_readUnit 60 rfl) rfl 139 (by decide) (by decide) ?_
  refine x_aload_n 122 0 (ab_dd tk_m_readUnit 61 rfl) rfl rfl rfl ?_
  refine x_bipush 124 40 (ab_dd tk_m_readUnit 62 rfl) rfl (by decide) (x_topn 40 rfl ?_)
  refine t_callV 127 M_m_is 0 1 [_] (ab_dd tk_m_readUnit 63 rfl) rfl (by first | decide | omega) K_m_is V_m_is.1 V_m_is.2 L_m_149 rfl (Nat.le_of_ble_eq_true rfl) (by decide) (Nat.lt_of_lt_of_le (by decide) hD.1.1) (hD.1.2.1 0 (by decide)) rfl (D_is hD _) (fun v1 w1 h1 => ?_)
  obtain ⟨rfl, rfl⟩ := h1
  refine x_if_ne_f 130 (ab_dd tk_m_readUnit 64 rfl) rfl 139 (by decide) (by decide) ?_
  refine x_aload_n 131 0 (ab_dd tk_m_readUnit 65 rfl) rfl rfl rfl ?_
  refine x_bipush 133 41 (ab_dd tk_m_readUnit 66 rfl) rfl (by decide) (x_topn 41 rfl ?_)
  refine t_callV 136 M_m_is 0 1 [_] (ab_dd tk_m_readUnit 67 rfl) rfl (by first | decide | omega) K_m_is V_m_is.1 V_m_is.2 L_m_149 rfl (Nat.le_of_ble_eq_true rfl) (by decide) (Nat.lt_of_lt_of_le (by decide) hD.1.1) (hD.1.2.1 0 (by decide)) rfl (D_is hD _) (fun v1 w1 h1 => ?_)
  obtain ⟨rfl, rfl⟩ := h1
  refine x_if_eq_t 146 (ab_dd tk_m_readUnit 68 rfl) (by decide) (by decide) ?_
  refine x_aload_n 147 0 (ab_dd tk_m_readUnit 72 rfl) rfl rfl rfl ?_
  refine x_iconst 148 2 (ab_dd tk_m_readUnit 73 rfl) rfl (by decide) (x_topn 2 rfl ?_)
  refine t_callV 151 M_m_fails 0 1 [_] (ab_dd tk_m_readUnit 74 rfl) rfl (by first | decide | omega) K_m_fails V_m_fails.1 V_m_fails.2 L_m_155 rfl (Nat.le_of_ble_eq_true rfl) (by decide) (Nat.lt_of_lt_of_le (by decide) hD.1.1) (hD.1.2.1 0 (by decide)) rfl (D_fails hD _) (fun v1 w1 h1 => ?_)
  obtain ⟨rfl, rfl⟩ := h1
  refine x_aload_n 152 0 (ab_dd tk_m_readUnit 75 rfl) rfl rfl rfl ?_
  refine x_iload_n 153 1 (ab_dd tk_m_readUnit 76 rfl) rfl rfl rfl ?_
  refine t_callV 156 M_m_readSum 9 1 [_] (ab_dd tk_m_readUnit 77 rfl) rfl (by decide) K_m_readSum V_m_readSum.1 V_m_readSum.2 L_m_175 rfl (Nat.le_of_ble_eq_true rfl) (by decide) (Nat.lt_of_lt_of_le (by decide) hD.1.1) (hD.1.2.1 0 (by decide)) rfl (D_readSum hD _) (fun v1 w1 h1 => ?_)
  obtain ⟨rfl, rfl⟩ := h1
  refine x_aload_n 157 0 (ab_dd tk_m_readUnit 78 rfl) rfl rfl rfl ?_
  refine x_iload_n 158 2 (ab_dd tk_m_readUnit 79 rfl) rfl rfl rfl ?_
  refine t_callV 161 M_m_codes 0 1 [_] (ab_dd tk_m_readUnit 80 rfl) rfl (by first | decide | omega) K_m_codes V_m_codes.1 V_m_codes.2 L_m_166 rfl (Nat.le_of_ble_eq_true rfl) (by decide) (Nat.lt_of_lt_of_le (by decide) hD.1.1) (hD.1.2.1 0 (by decide)) rfl (D_codes hD _) (fun v1 w1 h1 => ?_)
  obtain ⟨rfl, rfl⟩ := h1
  exact x_vret (ab_dd tk_m_readUnit 81 rfl) ⟨rfl, rfl⟩
def tb_m_readBoth : List (Nat × Instr × Nat) := [(0, .aload_n 0, 1), (1, .iload_n 1, 1), (2, .invokevirtual 193, 3), (5, .aload_n 0, 1), (6, .bipush 18, 2), (8, .invokevirtual 178, 3), (11, .ifCond .eq 18, 3), (14, .aload_n 0, 1), (15, .iload_n 1, 1), (16, .invokevirtual 193, 3), (19, .aload_n 0, 1), (20, .sipush 3007, 3), (23, .invokevirtual 166, 3), (26, .goto (-21), 3), (29, .return_, 1)]
theorem tk_m_readBoth : ∀ q ∈ tb_m_readBoth, decode M_m_readBoth.2.1 q.1 = .ok q.2 := by decide +kernel
theorem D_readBoth {G : ab_G} {S : ab_S} {e : Nat × Nat} (hD : rD S e) (x : Int32) : ab_C G 11 M_m_readBoth [.ref 120, .int x] (sw S) (fun v w' => v = none ∧ w' = sw S) := by
  refine x_enter [some (.ref 120), some (.int x)] (by decide) (Nat.le_of_ble_eq_true rfl) rfl (fun v w' h => by obtain ⟨rfl, rfl⟩ := h; trivial) ?_
  have hu := hD.2.2.2
  refine x_aload_n 1 0 (ab_dd tk_m_readBoth 0 rfl) rfl rfl rfl ?_
  refine x_iload_n 2 1 (ab_dd tk_m_readBoth 1 rfl) rfl rfl rfl ?_
  refine t_callV 5 M_m_readUnit 10 1 [_] (ab_dd tk_m_readBoth 2 rfl) rfl (by decide) K_m_readUnit V_m_readUnit.1 V_m_readUnit.2 L_m_193 rfl (Nat.le_of_ble_eq_true rfl) (by decide) (Nat.lt_of_lt_of_le (by decide) hD.1.1) (hD.1.2.1 0 (by decide)) rfl (D_readUnit hD _) (fun v1 w1 h1 => ?_)
  obtain ⟨rfl, rfl⟩ := h1
  refine x_aload_n 6 0 (ab_dd tk_m_readBoth 3 rfl) rfl rfl rfl ?_
  refine x_bipush 8 18 (ab_dd tk_m_readBoth 4 rfl) rfl (by decide) (x_topn 18 rfl ?_)
  refine t_callV 11 M_m_eats 6 1 [_] (ab_dd tk_m_readBoth 5 rfl) rfl (by first | decide | omega) K_m_eats V_m_eats.1 V_m_eats.2 L_m_178 rfl (Nat.le_of_ble_eq_true rfl) (by decide) (Nat.lt_of_lt_of_le (by decide) hD.1.1) (hD.1.2.1 0 (by decide)) rfl (D_eats hD _) (fun v1 w1 h1 => ?_)
  obtain ⟨rfl, rfl⟩ := h1
  refine x_if_eq_t 29 (ab_dd tk_m_readBoth 6 rfl) (by decide) (by decide) ?_
  exact x_vret (ab_dd tk_m_readBoth 14 rfl) ⟨rfl, rfl⟩
def tb_m_readTruth : List (Nat × Instr × Nat) := [(0, .aload_n 0, 1), (1, .iload_n 1, 1), (2, .invokevirtual 196, 3), (5, .aload_n 0, 1), (6, .bipush 19, 2), (8, .invokevirtual 178, 3), (11, .ifCond .eq 18, 3), (14, .aload_n 0, 1), (15, .iload_n 1, 1), (16, .invokevirtual 196, 3), (19, .aload_n 0, 1), (20, .sipush 3008, 3), (23, .invokevirtual 166, 3), (26, .goto (-21), 3), (29, .return_, 1)]
theorem tk_m_readTruth : ∀ q ∈ tb_m_readTruth, decode M_m_readTruth.2.1 q.1 = .ok q.2 := by decide +kernel
theorem D_readTruth {G : ab_G} {S : ab_S} {e : Nat × Nat} (hD : rD S e) (x : Int32) : ab_C G 12 M_m_readTruth [.ref 120, .int x] (sw S) (fun v w' => v = none ∧ w' = sw S) := by
  refine x_enter [some (.ref 120), some (.int x)] (by decide) (Nat.le_of_ble_eq_true rfl) rfl (fun v w' h => by obtain ⟨rfl, rfl⟩ := h; trivial) ?_
  have hu := hD.2.2.2
  refine x_aload_n 1 0 (ab_dd tk_m_readTruth 0 rfl) rfl rfl rfl ?_
  refine x_iload_n 2 1 (ab_dd tk_m_readTruth 1 rfl) rfl rfl rfl ?_
  refine t_callV 5 M_m_readBoth 11 1 [_] (ab_dd tk_m_readTruth 2 rfl) rfl (by decide) K_m_readBoth V_m_readBoth.1 V_m_readBoth.2 L_m_196 rfl (Nat.le_of_ble_eq_true rfl) (by decide) (Nat.lt_of_lt_of_le (by decide) hD.1.1) (hD.1.2.1 0 (by decide)) rfl (D_readBoth hD _) (fun v1 w1 h1 => ?_)
  obtain ⟨rfl, rfl⟩ := h1
  refine x_aload_n 6 0 (ab_dd tk_m_readTruth 3 rfl) rfl rfl rfl ?_
  refine x_bipush 8 19 (ab_dd tk_m_readTruth 4 rfl) rfl (by decide) (x_topn 19 rfl ?_)
  refine t_callV 11 M_m_eats 6 1 [_] (ab_dd tk_m_readTruth 5 rfl) rfl (by first | decide | omega) K_m_eats V_m_eats.1 V_m_eats.2 L_m_178 rfl (Nat.le_of_ble_eq_true rfl) (by decide) (Nat.lt_of_lt_of_le (by decide) hD.1.1) (hD.1.2.1 0 (by decide)) rfl (D_eats hD _) (fun v1 w1 h1 => ?_)
  obtain ⟨rfl, rfl⟩ := h1
  refine x_if_eq_t 29 (ab_dd tk_m_readTruth 6 rfl) (by decide) (by decide) ?_
  exact x_vret (ab_dd tk_m_readTruth 14 rfl) ⟨rfl, rfl⟩
def JM (G : ab_G) (tp : Nat → Nat) (n la : Nat) (M : ab_M) (m rk g : Nat) : Prop := ∀ (S : ab_S) (N deep p : Nat), rL S tp n p → sI S 120 15 = nI la → sI S 124 183 = nI N → N ≤ p → deep ≤ 6 → 8 * (n - p) + rk < g → ab_C G (10 * (6 - deep) + 11 + rk) M [.ref 120, .int (nI deep)] (sw S) (rOut S tp n N (pS tp n la g m deep p))
theorem pB_r (q : Nat) (c : List Nat) (f : Nat → List Nat → pR) : pB (.inr (q, c)) f = f q c := rfl
theorem pB_as (r : pR) (x : Nat) (C c : List Nat) : pB (pB r (fun r d => .inr (r, c ++ x :: d))) (fun r d => .inr (r, C ++ d)) = pB r (fun r d => .inr (r, C ++ c ++ [x] ++ d)) := by
  cases r with
  | inl e => rfl
  | inr y => unfold pB; simp
theorem j_readTerm {G : ab_G} {tp : Nat → Nat} {n la f : Nat} (hla : la < 2) (hA : ∀ g, g ≤ f → JM G tp n la M_m_readAtom 0 1 g) : JM G tp n la M_m_readTerm 1 2 (f + 1) := by
  intro S N deep p hL hr hN hNp hdeep hfu
  have hp := hL.2.2.2.2.2.1
  have hn9 := hL.2.2.2.1
  have hk42 := tK_lt tp n p
  have hr42 := tN_lt (tp := tp) hp
  refine x_enter [some (.ref 120), some (.int (nI deep))] (by decide) (Nat.le_of_ble_eq_true rfl) rfl (fun v w' h => by obtain ⟨rfl, -⟩ := h; trivial) ?_
  have lp : ∀ g, g ≤ f → ∀ (U : ab_S) (q : Nat) (Cs : List Nat), rF S U → rL U tp n q → sI U 124 = appC N (sI S 124) Cs → N + Cs.length ≤ q → 8 * (n - q) < g → pS tp n la (f + 1) 1 deep p = pB (pS tp n la g 6 deep q) (fun r d => .inr (r, Cs ++ d)) → ab_Ex G (10 * (6 - deep) + 11 + 2) M_m_readTerm 5 [some (.ref 120), some (.int (nI deep))] [] (sw U) (rOut S tp n N (pS tp n la (f + 1) 1 deep p)) := by
    intro g
    induction g with
    | zero => intro _ U q Cs _ _ _ _ z; exact absurd z (by omega)
    | succ g ih =>
      intro hgf U q Cs uF0 uL0 uf0 hCq hfq hsp0
      have hq := uL0.2.2.2.2.2.1
      have hq42 := tK_lt tp n q
      have hun : pS tp n la (g + 1) 6 deep q = if 34 ≤ tK tp n q ∧ tK tp n q ≤ 34 then pB (pS tp n la g 0 deep (tE tp n q)) (fun q1 c => pB (pS tp n la g 6 deep q1) (fun r d => .inr (r, c ++ (3002 + (tK tp n q - 34)) :: d))) else .inr (q, []) := rfl
      refine x_aload_n 6 0 (ab_dd tk_m_readTerm 3 rfl) rfl rfl rfl ?_
      refine x_bipush 8 34 (ab_dd tk_m_readTerm 4 rfl) rfl (by decide) (x_topn 34 rfl ?_)
      refine t_callV 11 M_m_eats 6 1 [_] (ab_dd tk_m_readTerm 5 rfl) rfl (by first | decide | omega) K_m_eats V_m_eats.1 V_m_eats.2 L_m_178 rfl (Nat.le_of_ble_eq_true rfl) (by decide) (Nat.lt_of_lt_of_le (by decide) uL0.1.1) (uL0.1.2.1 0 (by decide)) rfl (L_eats uL0 34 (by decide) (by decide)) (fun v1 w1 h1 => ?_)
      rcases h1 with ⟨hk1, rfl, U1, rfl, uF1, uC1, uL1⟩ | ⟨hk1, rfl, rfl⟩
      · have ht1 := tE_g hq (show tK tp n q ≠ 24 by omega)
        refine x_if_eq_f 14 (ab_dd tk_m_readTerm 6 rfl) rfl 29 (by decide) (by decide) ?_
        refine x_aload_n 15 0 (ab_dd tk_m_readTerm 7 rfl) rfl rfl rfl ?_
        refine x_iload_n 16 1 (ab_dd tk_m_readTerm 8 rfl) rfl rfl rfl ?_
        refine t_callV 19 M_m_readAtom (10 * (6 - deep) + 11 + 1) 1 [_] (ab_dd tk_m_readTerm 9 rfl) rfl (by omega) K_m_readAtom V_m_readAtom.1 V_m_readAtom.2 L_m_187 rfl (Nat.le_of_ble_eq_true rfl) (by decide) (Nat.lt_of_lt_of_le (by decide) uL1.1.1) (uL1.1.2.1 0 (by decide)) rfl (hA g (by omega) _ _ deep (tE tp n q) uL1 (by exact ((uF0.tr uF1).2 15 (by omega)).trans hr) ((congrFun (uC1.trans uf0) 183).trans (appC_N _ _ _)) (by first | omega | (simp only [List.length_append, List.length_cons, List.length_nil]; omega)) (by omega) (by omega)) (fun v1 w1 h1 => ?_)
        obtain ⟨rfl, U2, rfl, uF2, uO2⟩ := h1
        rcases hX2 : pS tp n la g 0 deep (tE tp n q) with e2 | ⟨q2, c2⟩
        · rw [hX2] at uO2
          have uD2 : rD U2 e2 := uO2
          have hu2 := uD2.2.2.2
          refine x_aload_n 20 0 (ab_dd tk_m_readTerm 10 rfl) rfl rfl rfl ?_
          refine x_sipush 23 3002 (ab_dd tk_m_readTerm 11 rfl) rfl (by decide) (x_topn 3002 rfl ?_)
          refine t_callV 26 M_m_codes 0 1 [_] (ab_dd tk_m_readTerm 12 rfl) rfl (by first | decide | omega) K_m_codes V_m_codes.1 V_m_codes.2 L_m_166 rfl (Nat.le_of_ble_eq_true rfl) (by decide) (Nat.lt_of_lt_of_le (by decide) uD2.1.1) (uD2.1.2.1 0 (by decide)) rfl (D_codes uD2 _) (fun v1 w1 h1 => ?_)
          obtain ⟨rfl, rfl⟩ := h1
          refine x_goto 5 (ab_dd tk_m_readTerm 13 rfl) (by decide) ?_
          refine x_aload_n 6 0 (ab_dd tk_m_readTerm 3 rfl) rfl rfl rfl ?_
          refine x_bipush 8 34 (ab_dd tk_m_readTerm 4 rfl) rfl (by decide) (x_topn 34 rfl ?_)
          refine t_callV 11 M_m_eats 6 1 [_] (ab_dd tk_m_readTerm 5 rfl) rfl (by first | decide | omega) K_m_eats V_m_eats.1 V_m_eats.2 L_m_178 rfl (Nat.le_of_ble_eq_true rfl) (by decide) (Nat.lt_of_lt_of_le (by decide) uD2.1.1) (uD2.1.2.1 0 (by decide)) rfl (D_eats uD2 _) (fun v1 w1 h1 => ?_)
          obtain ⟨rfl, rfl⟩ := h1
          refine x_if_eq_t 29 (ab_dd tk_m_readTerm 6 rfl) (by decide) (by decide) ?_
          have hsp : pS tp n la (f + 1) 1 deep p = .inl e2 := by
            rw [hsp0, hun, if_pos (by omega), hX2]
            rfl
          exact x_vret (ab_dd tk_m_readTerm 14 rfl) ⟨rfl, _, rfl, ((uF0.tr uF1).tr uF2), by rw [hsp]; exact uD2⟩
        · rw [hX2] at uO2
          have uL2 : rL U2 tp n q2 := uO2.1
          have uC2 := uO2.2
          have hg2 := pS_len _ _ _ _ _ _ uL1.2.2.2.2.2.1 hX2
          obtain ⟨hga2, hgb2, hgc2, hgd2⟩ := hg2
          have hge2 := hgd2 (by decide)
          have uf2 : sI U2 124 = appC N (sI S 124) (Cs ++ c2) := by rw [uC2, (uC1.trans uf0), appC_app]
          refine x_aload_n 20 0 (ab_dd tk_m_readTerm 10 rfl) rfl rfl rfl ?_
          refine x_sipush 23 3002 (ab_dd tk_m_readTerm 11 rfl) rfl (by decide) (x_topn 3002 rfl ?_)
          refine t_callV 26 M_m_codes 0 1 [_] (ab_dd tk_m_readTerm 12 rfl) rfl (by first | decide | omega) K_m_codes V_m_codes.1 V_m_codes.2 L_m_166 rfl (Nat.le_of_ble_eq_true rfl) (by decide) (Nat.lt_of_lt_of_le (by decide) uL2.1.1) (uL2.1.2.1 0 (by decide)) rfl (L_codes uL2 ((congrFun uf2 183).trans (appC_N _ _ _)) (by first | omega | (simp only [List.length_append, List.length_cons, List.length_nil]; omega)) 3002) (fun v1 w1 h1 => ?_)
          obtain ⟨rfl, U3, rfl, uF3, uC3, uL3⟩ := h1
          have uf3 : sI U3 124 = appC N (sI S 124) ((Cs ++ c2) ++ [3002]) := by rw [uC3, uf2, appC_app]
          refine x_goto 5 (ab_dd tk_m_readTerm 13 rfl) (by decide) ?_
          rw [show 3002 + (tK tp n q - 34) = 3002 by omega] at hun
          exact ih (by omega) _ _ _ (((uF0.tr uF1).tr uF2).tr uF3) uL3 uf3 (by first | omega | (simp only [List.length_append, List.length_cons, List.length_nil]; omega)) (by omega) (by rw [hsp0, hun, if_pos (by omega), hX2]; exact pB_as _ _ _ _)
      · skip
        refine x_if_eq_t 29 (ab_dd tk_m_readTerm 6 rfl) (by decide) (by decide) ?_
        have hsp : pS tp n la (f + 1) 1 deep p = .inr (q, Cs) := by
          rw [hsp0, hun, if_neg (by omega)]
          show Sum.inr (q, Cs ++ []) = _
          rw [List.append_nil]
        exact x_vret (ab_dd tk_m_readTerm 14 rfl) ⟨rfl, _, rfl, uF0, by rw [hsp]; exact ⟨uL0, uf0⟩⟩
  refine x_aload_n 1 0 (ab_dd tk_m_readTerm 0 rfl) rfl rfl rfl ?_
  refine x_iload_n 2 1 (ab_dd tk_m_readTerm 1 rfl) rfl rfl rfl ?_
  refine t_callV 5 M_m_readAtom (10 * (6 - deep) + 11 + 1) 1 [_] (ab_dd tk_m_readTerm 2 rfl) rfl (by omega) K_m_readAtom V_m_readAtom.1 V_m_readAtom.2 L_m_187 rfl (Nat.le_of_ble_eq_true rfl) (by decide) (Nat.lt_of_lt_of_le (by decide) hL.1.1) (hL.1.2.1 0 (by decide)) rfl (hA f (Nat.le_refl _) _ _ deep p hL (by exact (rF.rf.2 15 (by omega)).trans hr) ((congrFun rfl 183).trans hN) (by first | omega | (simp only [List.length_append, List.length_cons, List.length_nil]; omega)) (by omega) (by omega)) (fun v1 w1 h1 => ?_)
  obtain ⟨rfl, U1, rfl, uF1, uO1⟩ := h1
  rcases hX1 : pS tp n la f 0 deep p with e1 | ⟨q1, c1⟩
  · rw [hX1] at uO1
    have uD1 : rD U1 e1 := uO1
    have hu1 := uD1.2.2.2
    refine x_aload_n 6 0 (ab_dd tk_m_readTerm 3 rfl) rfl rfl rfl ?_
    refine x_bipush 8 34 (ab_dd tk_m_readTerm 4 rfl) rfl (by decide) (x_topn 34 rfl ?_)
    refine t_callV 11 M_m_eats 6 1 [_] (ab_dd tk_m_readTerm 5 rfl) rfl (by first | decide | omega) K_m_eats V_m_eats.1 V_m_eats.2 L_m_178 rfl (Nat.le_of_ble_eq_true rfl) (by decide) (Nat.lt_of_lt_of_le (by decide) uD1.1.1) (uD1.1.2.1 0 (by decide)) rfl (D_eats uD1 _) (fun v1 w1 h1 => ?_)
    obtain ⟨rfl, rfl⟩ := h1
    refine x_if_eq_t 29 (ab_dd tk_m_readTerm 6 rfl) (by decide) (by decide) ?_
    have hsp : pS tp n la (f + 1) 1 deep p = .inl e1 := by
      show qSq _ 0 6 deep p = _
      unfold qSq
      rw [hX1]
      rfl
    exact x_vret (ab_dd tk_m_readTerm 14 rfl) ⟨rfl, _, rfl, (rF.rf.tr uF1), by rw [hsp]; exact uD1⟩
  · rw [hX1] at uO1
    have uL1 : rL U1 tp n q1 := uO1.1
    have uC1 := uO1.2
    have hg1 := pS_len _ _ _ _ _ _ hL.2.2.2.2.2.1 hX1
    obtain ⟨hga1, hgb1, hgc1, hgd1⟩ := hg1
    have hge1 := hgd1 (by decide)
    have uf1 : sI U1 124 = appC N (sI S 124) c1 := uC1.trans (congrArg (fun z => appC N z c1) rfl)
    exact lp f (Nat.le_refl _) _ _ _ (rF.rf.tr uF1) uL1 uf1 (by first | omega | (simp only [List.length_append, List.length_cons, List.length_nil]; omega)) (by omega) (by show qSq _ 0 6 deep p = _; unfold qSq; rw [hX1]; rfl)
theorem j_readSum {G : ab_G} {tp : Nat → Nat} {n la f : Nat} (hla : la < 2) (hA : ∀ g, g ≤ f → JM G tp n la M_m_readTerm 1 2 g) : JM G tp n la M_m_readSum 2 3 (f + 1) := by
  intro S N deep p hL hr hN hNp hdeep hfu
  have hp := hL.2.2.2.2.2.1
  have hn9 := hL.2.2.2.1
  have hk42 := tK_lt tp n p
  have hr42 := tN_lt (tp := tp) hp
  refine x_enter [some (.ref 120), some (.int (nI deep)), none] (by decide) (Nat.le_of_ble_eq_true rfl) rfl (fun v w' h => by obtain ⟨rfl, -⟩ := h; trivial) ?_
  have lp : ∀ g, g ≤ f → ∀ (U : ab_S) (q : Nat) (Cs : List Nat) (y : Option Value), rF S U → rL U tp n q → sI U 124 = appC N (sI S 124) Cs → N + Cs.length ≤ q → 8 * (n - q) < g → pS tp n la (f + 1) 2 deep p = pB (pS tp n la g 7 deep q) (fun r d => .inr (r, Cs ++ d)) → ab_Ex G (10 * (6 - deep) + 11 + 3) M_m_readSum 5 [some (.ref 120), some (.int (nI deep)), y] [] (sw U) (rOut S tp n N (pS tp n la (f + 1) 2 deep p)) := by
    intro g
    induction g with
    | zero => intro _ U q Cs _ _ _ _ _ z; exact absurd z (by omega)
    | succ g ih =>
      intro hgf U q Cs y uF0 uL0 uf0 hCq hfq hsp0
      have hq := uL0.2.2.2.2.2.1
      have hq42 := tK_lt tp n q
      have hun : pS tp n la (g + 1) 7 deep q = if 32 ≤ tK tp n q ∧ tK tp n q ≤ 33 then pB (pS tp n la g 1 deep (tE tp n q)) (fun q1 c => pB (pS tp n la g 7 deep q1) (fun r d => .inr (r, c ++ (3000 + (tK tp n q - 32)) :: d))) else .inr (q, []) := rfl
      refine x_forget 2 ?_
      refine x_aload_n 6 0 (ab_dd tk_m_readSum 3 rfl) rfl rfl rfl ?_
      refine x_bipush 8 32 (ab_dd tk_m_readSum 4 rfl) rfl (by decide) (x_topn 32 rfl ?_)
      refine t_callV 11 M_m_is 0 1 [_] (ab_dd tk_m_readSum 5 rfl) rfl (by first | decide | omega) K_m_is V_m_is.1 V_m_is.2 L_m_149 rfl (Nat.le_of_ble_eq_true rfl) (by decide) (Nat.lt_of_lt_of_le (by decide) uL0.1.1) (uL0.1.2.1 0 (by decide)) rfl (L_is uL0 32 (by decide)) (fun v1 w1 h1 => ?_)
      obtain ⟨rfl, rfl⟩ := h1
      refine xb_if_ne 14 23 (ab_dd tk_m_readSum 6 rfl) rfl (by decide) (fun h11 => ?_) (fun h11 => ?_)
      · refine x_aload_n 24 0 (ab_dd tk_m_readSum 11 rfl) rfl rfl rfl ?_
        refine t_getI 27 (ab_dd tk_m_readSum 12 rfl) rfl F_m_125 (by decide) (Nat.lt_of_lt_of_le (by decide) uL0.1.1) (uL0.1.2.1 0 (by decide)) rfl (x_topn (tK tp n q) uL0.2.2.2.2.2.2.1.2.2.1 ?_)
        refine x_bipush 29 32 (ab_dd tk_m_readSum 13 rfl) rfl (by decide) (x_topn 32 rfl ?_)
        refine x_icmp_ne_f 32 (ab_dd tk_m_readSum 14 rfl) rfl 38 (by decide) ((nI_eq (a := (tK tp n q)) (b := 32) (by omega) (by omega)).mpr (show (tK tp n q) = 32 by exact h11)) ?_
        refine x_sipush 35 3000 (ab_dd tk_m_readSum 15 rfl) rfl (by decide) (x_topn 3000 rfl ?_)
        refine x_goto 41 (ab_dd tk_m_readSum 16 rfl) (by decide) ?_
        refine x_istore_n 42 [some (.ref 120), some (.int (nI deep)), some (.int (nI 3000))] 2 (ab_dd tk_m_readSum 18 rfl) rfl rfl (by decide) rfl ?_
        refine x_aload_n 43 0 (ab_dd tk_m_readSum 19 rfl) rfl rfl rfl ?_
        refine t_callV 46 M_m_next 5 0 [] (ab_dd tk_m_readSum 20 rfl) rfl (by first | decide | omega) K_m_next V_m_next.1 V_m_next.2 L_m_152 rfl (Nat.le_of_ble_eq_true rfl) (by decide) (Nat.lt_of_lt_of_le (by decide) uL0.1.1) (uL0.1.2.1 0 (by decide)) rfl (L_next uL0 (by omega)) (fun v1 w1 h1 => ?_)
        obtain ⟨rfl, U1, rfl, uF1, uC1, uL1⟩ := h1
        have ht1 := tE_g hq (show tK tp n q ≠ 24 by omega)
        refine x_aload_n 47 0 (ab_dd tk_m_readSum 21 rfl) rfl rfl rfl ?_
        refine x_iload_n 48 1 (ab_dd tk_m_readSum 22 rfl) rfl rfl rfl ?_
        refine t_callV 51 M_m_readTerm (10 * (6 - deep) + 11 + 2) 1 [_] (ab_dd tk_m_readSum 23 rfl) rfl (by omega) K_m_readTerm V_m_readTerm.1 V_m_readTerm.2 L_m_190 rfl (Nat.le_of_ble_eq_true rfl) (by decide) (Nat.lt_of_lt_of_le (by decide) uL1.1.1) (uL1.1.2.1 0 (by decide)) rfl (hA g (by omega) _ _ deep (tE tp n q) uL1 (by exact ((uF0.tr uF1).2 15 (by omega)).trans hr) ((congrFun (uC1.trans uf0) 183).trans (appC_N _ _ _)) (by first | omega | (simp only [List.length_append, List.length_cons, List.length_nil]; omega)) (by omega) (by omega)) (fun v1 w1 h1 => ?_)
        obtain ⟨rfl, U2, rfl, uF2, uO2⟩ := h1
        rcases hX2 : pS tp n la g 1 deep (tE tp n q) with e2 | ⟨q2, c2⟩
        · rw [hX2] at uO2
          have uD2 : rD U2 e2 := uO2
          have hu2 := uD2.2.2.2
          refine x_aload_n 52 0 (ab_dd tk_m_readSum 24 rfl) rfl rfl rfl ?_
          refine x_iload_n 53 2 (ab_dd tk_m_readSum 25 rfl) rfl rfl rfl ?_
          refine t_callV 56 M_m_codes 0 1 [_] (ab_dd tk_m_readSum 26 rfl) rfl (by first | decide | omega) K_m_codes V_m_codes.1 V_m_codes.2 L_m_166 rfl (Nat.le_of_ble_eq_true rfl) (by decide) (Nat.lt_of_lt_of_le (by decide) uD2.1.1) (uD2.1.2.1 0 (by decide)) rfl (D_codes uD2 _) (fun v1 w1 h1 => ?_)
          obtain ⟨rfl, rfl⟩ := h1
          refine x_goto 5 (ab_dd tk_m_readSum 27 rfl) (by decide) ?_
          refine x_aload_n 6 0 (ab_dd tk_m_readSum 3 rfl) rfl rfl rfl ?_
          refine x_bipush 8 32 (ab_dd tk_m_readSum 4 rfl) rfl (by decide) (x_topn 32 rfl ?_)
          refine t_callV 11 M_m_is 0 1 [_] (ab_dd tk_m_readSum 5 rfl) rfl (by first | decide | omega) K_m_is V_m_is.1 V_m_is.2 L_m_149 rfl (Nat.le_of_ble_eq_true rfl) (by decide) (Nat.lt_of_lt_of_le (by decide) uD2.1.1) (uD2.1.2.1 0 (by decide)) rfl (D_is uD2 _) (fun v1 w1 h1 => ?_)
          obtain ⟨rfl, rfl⟩ := h1
          refine x_if_ne_f 14 (ab_dd tk_m_readSum 6 rfl) rfl 23 (by decide) (by decide) ?_
          refine x_aload_n 15 0 (ab_dd tk_m_readSum 7 rfl) rfl rfl rfl ?_
          refine x_bipush 17 33 (ab_dd tk_m_readSum 8 rfl) rfl (by decide) (x_topn 33 rfl ?_)
          refine t_callV 20 M_m_is 0 1 [_] (ab_dd tk_m_readSum 9 rfl) rfl (by first | decide | omega) K_m_is V_m_is.1 V_m_is.2 L_m_149 rfl (Nat.le_of_ble_eq_true rfl) (by decide) (Nat.lt_of_lt_of_le (by decide) uD2.1.1) (uD2.1.2.1 0 (by decide)) rfl (D_is uD2 _) (fun v1 w1 h1 => ?_)
          obtain ⟨rfl, rfl⟩ := h1
          refine x_if_eq_t 59 (ab_dd tk_m_readSum 10 rfl) (by decide) (by decide) ?_
          have hsp : pS tp n la (f + 1) 2 deep p = .inl e2 := by
            rw [hsp0, hun, if_pos (by omega), hX2]
            rfl
          exact x_vret (ab_dd tk_m_readSum 28 rfl) ⟨rfl, _, rfl, ((uF0.tr uF1).tr uF2), by rw [hsp]; exact uD2⟩
        · rw [hX2] at uO2
          have uL2 : rL U2 tp n q2 := uO2.1
          have uC2 := uO2.2
          have hg2 := pS_len _ _ _ _ _ _ uL1.2.2.2.2.2.1 hX2
          obtain ⟨hga2, hgb2, hgc2, hgd2⟩ := hg2
          have hge2 := hgd2 (by decide)
          have uf2 : sI U2 124 = appC N (sI S 124) (Cs ++ c2) := by rw [uC2, (uC1.trans uf0), appC_app]
          refine x_aload_n 52 0 (ab_dd tk_m_readSum 24 rfl) rfl rfl rfl ?_
          refine x_iload_n 53 2 (ab_dd tk_m_readSum 25 rfl) rfl rfl rfl ?_
          refine t_callV 56 M_m_codes 0 1 [_] (ab_dd tk_m_readSum 26 rfl) rfl (by first | decide | omega) K_m_codes V_m_codes.1 V_m_codes.2 L_m_166 rfl (Nat.le_of_ble_eq_true rfl) (by decide) (Nat.lt_of_lt_of_le (by decide) uL2.1.1) (uL2.1.2.1 0 (by decide)) rfl (L_codes uL2 ((congrFun uf2 183).trans (appC_N _ _ _)) (by first | omega | (simp only [List.length_append, List.length_cons, List.length_nil]; omega)) 3000) (fun v1 w1 h1 => ?_)
          obtain ⟨rfl, U3, rfl, uF3, uC3, uL3⟩ := h1
          have uf3 : sI U3 124 = appC N (sI S 124) ((Cs ++ c2) ++ [3000]) := by rw [uC3, uf2, appC_app]
          refine x_goto 5 (ab_dd tk_m_readSum 27 rfl) (by decide) ?_
          rw [show 3000 + (tK tp n q - 32) = 3000 by omega] at hun
          exact ih (by omega) _ _ _ _ (((uF0.tr uF1).tr uF2).tr uF3) uL3 uf3 (by first | omega | (simp only [List.length_append, List.length_cons, List.length_nil]; omega)) (by omega) (by rw [hsp0, hun, if_pos (by omega), hX2]; exact pB_as _ _ _ _)
      · refine x_aload_n 15 0 (ab_dd tk_m_readSum 7 rfl) rfl rfl rfl ?_
        refine x_bipush 17 33 (ab_dd tk_m_readSum 8 rfl) rfl (by decide) (x_topn 33 rfl ?_)
        refine t_callV 20 M_m_is 0 1 [_] (ab_dd tk_m_readSum 9 rfl) rfl (by first | decide | omega) K_m_is V_m_is.1 V_m_is.2 L_m_149 rfl (Nat.le_of_ble_eq_true rfl) (by decide) (Nat.lt_of_lt_of_le (by decide) uL0.1.1) (uL0.1.2.1 0 (by decide)) rfl (L_is uL0 33 (by decide)) (fun v1 w1 h1 => ?_)
        obtain ⟨rfl, rfl⟩ := h1
        refine xb_if_eq 23 59 (ab_dd tk_m_readSum 10 rfl) rfl (by decide) (fun h20 => ?_) (fun h20 => ?_)
        · have hsp : pS tp n la (f + 1) 2 deep p = .inr (q, Cs) := by
            rw [hsp0, hun, if_neg (by omega)]
            show Sum.inr (q, Cs ++ []) = _
            rw [List.append_nil]
          exact x_vret (ab_dd tk_m_readSum 28 rfl) ⟨rfl, _, rfl, uF0, by rw [hsp]; exact ⟨uL0, uf0⟩⟩
        · refine x_aload_n 24 0 (ab_dd tk_m_readSum 11 rfl) rfl rfl rfl ?_
          refine t_getI 27 (ab_dd tk_m_readSum 12 rfl) rfl F_m_125 (by decide) (Nat.lt_of_lt_of_le (by decide) uL0.1.1) (uL0.1.2.1 0 (by decide)) rfl (x_topn (tK tp n q) uL0.2.2.2.2.2.2.1.2.2.1 ?_)
          refine x_bipush 29 32 (ab_dd tk_m_readSum 13 rfl) rfl (by decide) (x_topn 32 rfl ?_)
          refine x_icmp_ne_t 38 (ab_dd tk_m_readSum 14 rfl) (by decide) (fun z => absurd ((nI_eq (a := (tK tp n q)) (b := 32) (by omega) (by omega)).mp z) (show ¬ ((tK tp n q) = 32) by omega)) ?_
          refine x_sipush 41 3001 (ab_dd tk_m_readSum 17 rfl) rfl (by decide) (x_topn 3001 rfl ?_)
          refine x_istore_n 42 [some (.ref 120), some (.int (nI deep)), some (.int (nI 3001))] 2 (ab_dd tk_m_readSum 18 rfl) rfl rfl (by decide) rfl ?_
          refine x_aload_n 43 0 (ab_dd tk_m_readSum 19 rfl) rfl rfl rfl ?_
          refine t_callV 46 M_m_next 5 0 [] (ab_dd tk_m_readSum 20 rfl) rfl (by first | decide | omega) K_m_next V_m_next.1 V_m_next.2 L_m_152 rfl (Nat.le_of_ble_eq_true rfl) (by decide) (Nat.lt_of_lt_of_le (by decide) uL0.1.1) (uL0.1.2.1 0 (by decide)) rfl (L_next uL0 (by omega)) (fun v1 w1 h1 => ?_)
          obtain ⟨rfl, U4, rfl, uF4, uC4, uL4⟩ := h1
          have ht4 := tE_g hq (show tK tp n q ≠ 24 by omega)
          refine x_aload_n 47 0 (ab_dd tk_m_readSum 21 rfl) rfl rfl rfl ?_
          refine x_iload_n 48 1 (ab_dd tk_m_readSum 22 rfl) rfl rfl rfl ?_
          refine t_callV 51 M_m_readTerm (10 * (6 - deep) + 11 + 2) 1 [_] (ab_dd tk_m_readSum 23 rfl) rfl (by omega) K_m_readTerm V_m_readTerm.1 V_m_readTerm.2 L_m_190 rfl (Nat.le_of_ble_eq_true rfl) (by decide) (Nat.lt_of_lt_of_le (by decide) uL4.1.1) (uL4.1.2.1 0 (by decide)) rfl (hA g (by omega) _ _ deep (tE tp n q) uL4 (by exact ((uF0.tr uF4).2 15 (by omega)).trans hr) ((congrFun (uC4.trans uf0) 183).trans (appC_N _ _ _)) (by first | omega | (simp only [List.length_append, List.length_cons, List.length_nil]; omega)) (by omega) (by omega)) (fun v1 w1 h1 => ?_)
          obtain ⟨rfl, U5, rfl, uF5, uO5⟩ := h1
          rcases hX5 : pS tp n la g 1 deep (tE tp n q) with e5 | ⟨q5, c5⟩
          · rw [hX5] at uO5
            have uD5 : rD U5 e5 := uO5
            have hu5 := uD5.2.2.2
            refine x_aload_n 52 0 (ab_dd tk_m_readSum 24 rfl) rfl rfl rfl ?_
            refine x_iload_n 53 2 (ab_dd tk_m_readSum 25 rfl) rfl rfl rfl ?_
            refine t_callV 56 M_m_codes 0 1 [_] (ab_dd tk_m_readSum 26 rfl) rfl (by first | decide | omega) K_m_codes V_m_codes.1 V_m_codes.2 L_m_166 rfl (Nat.le_of_ble_eq_true rfl) (by decide) (Nat.lt_of_lt_of_le (by decide) uD5.1.1) (uD5.1.2.1 0 (by decide)) rfl (D_codes uD5 _) (fun v1 w1 h1 => ?_)
            obtain ⟨rfl, rfl⟩ := h1
            refine x_goto 5 (ab_dd tk_m_readSum 27 rfl) (by decide) ?_
            refine x_aload_n 6 0 (ab_dd tk_m_readSum 3 rfl) rfl rfl rfl ?_
            refine x_bipush 8 32 (ab_dd tk_m_readSum 4 rfl) rfl (by decide) (x_topn 32 rfl ?_)
            refine t_callV 11 M_m_is 0 1 [_] (ab_dd tk_m_readSum 5 rfl) rfl (by first | decide | omega) K_m_is V_m_is.1 V_m_is.2 L_m_149 rfl (Nat.le_of_ble_eq_true rfl) (by decide) (Nat.lt_of_lt_of_le (by decide) uD5.1.1) (uD5.1.2.1 0 (by decide)) rfl (D_is uD5 _) (fun v1 w1 h1 => ?_)
            obtain ⟨rfl, rfl⟩ := h1
            refine x_if_ne_f 14 (ab_dd tk_m_readSum 6 rfl) rfl 23 (by decide) (by decide) ?_
            refine x_aload_n 15 0 (ab_dd tk_m_readSum 7 rfl) rfl rfl rfl ?_
            refine x_bipush 17 33 (ab_dd tk_m_readSum 8 rfl) rfl (by decide) (x_topn 33 rfl ?_)
            refine t_callV 20 M_m_is 0 1 [_] (ab_dd tk_m_readSum 9 rfl) rfl (by first | decide | omega) K_m_is V_m_is.1 V_m_is.2 L_m_149 rfl (Nat.le_of_ble_eq_true rfl) (by decide) (Nat.lt_of_lt_of_le (by decide) uD5.1.1) (uD5.1.2.1 0 (by decide)) rfl (D_is uD5 _) (fun v1 w1 h1 => ?_)
            obtain ⟨rfl, rfl⟩ := h1
            refine x_if_eq_t 59 (ab_dd tk_m_readSum 10 rfl) (by decide) (by decide) ?_
            have hsp : pS tp n la (f + 1) 2 deep p = .inl e5 := by
              rw [hsp0, hun, if_pos (by omega), hX5]
              rfl
            exact x_vret (ab_dd tk_m_readSum 28 rfl) ⟨rfl, _, rfl, ((uF0.tr uF4).tr uF5), by rw [hsp]; exact uD5⟩
          · rw [hX5] at uO5
            have uL5 : rL U5 tp n q5 := uO5.1
            have uC5 := uO5.2
            have hg5 := pS_len _ _ _ _ _ _ uL4.2.2.2.2.2.1 hX5
            obtain ⟨hga5, hgb5, hgc5, hgd5⟩ := hg5
            have hge5 := hgd5 (by decide)
            have uf5 : sI U5 124 = appC N (sI S 124) (Cs ++ c5) := by rw [uC5, (uC4.trans uf0), appC_app]
            refine x_aload_n 52 0 (ab_dd tk_m_readSum 24 rfl) rfl rfl rfl ?_
            refine x_iload_n 53 2 (ab_dd tk_m_readSum 25 rfl) rfl rfl rfl ?_
            refine t_callV 56 M_m_codes 0 1 [_] (ab_dd tk_m_readSum 26 rfl) rfl (by first | decide | omega) K_m_codes V_m_codes.1 V_m_codes.2 L_m_166 rfl (Nat.le_of_ble_eq_true rfl) (by decide) (Nat.lt_of_lt_of_le (by decide) uL5.1.1) (uL5.1.2.1 0 (by decide)) rfl (L_codes uL5 ((congrFun uf5 183).trans (appC_N _ _ _)) (by first | omega | (simp only [List.length_append, List.length_cons, List.length_nil]; omega)) 3001) (fun v1 w1 h1 => ?_)
            obtain ⟨rfl, U6, rfl, uF6, uC6, uL6⟩ := h1
            have uf6 : sI U6 124 = appC N (sI S 124) ((Cs ++ c5) ++ [3001]) := by rw [uC6, uf5, appC_app]
            refine x_goto 5 (ab_dd tk_m_readSum 27 rfl) (by decide) ?_
            rw [show 3000 + (tK tp n q - 32) = 3001 by omega] at hun
            exact ih (by omega) _ _ _ _ (((uF0.tr uF4).tr uF5).tr uF6) uL6 uf6 (by first | omega | (simp only [List.length_append, List.length_cons, List.length_nil]; omega)) (by omega) (by rw [hsp0, hun, if_pos (by omega), hX5]; exact pB_as _ _ _ _)
  refine x_aload_n 1 0 (ab_dd tk_m_readSum 0 rfl) rfl rfl rfl ?_
  refine x_iload_n 2 1 (ab_dd tk_m_readSum 1 rfl) rfl rfl rfl ?_
  refine t_callV 5 M_m_readTerm (10 * (6 - deep) + 11 + 2) 1 [_] (ab_dd tk_m_readSum 2 rfl) rfl (by omega) K_m_readTerm V_m_readTerm.1 V_m_readTerm.2 L_m_190 rfl (Nat.le_of_ble_eq_true rfl) (by decide) (Nat.lt_of_lt_of_le (by decide) hL.1.1) (hL.1.2.1 0 (by decide)) rfl (hA f (Nat.le_refl _) _ _ deep p hL (by exact (rF.rf.2 15 (by omega)).trans hr) ((congrFun rfl 183).trans hN) (by first | omega | (simp only [List.length_append, List.length_cons, List.length_nil]; omega)) (by omega) (by omega)) (fun v1 w1 h1 => ?_)
  obtain ⟨rfl, U1, rfl, uF1, uO1⟩ := h1
  rcases hX1 : pS tp n la f 1 deep p with e1 | ⟨q1, c1⟩
  · rw [hX1] at uO1
    have uD1 : rD U1 e1 := uO1
    have hu1 := uD1.2.2.2
    refine x_aload_n 6 0 (ab_dd tk_m_readSum 3 rfl) rfl rfl rfl ?_
    refine x_bipush 8 32 (ab_dd tk_m_readSum 4 rfl) rfl (by decide) (x_topn 32 rfl ?_)
    refine t_callV 11 M_m_is 0 1 [_] (ab_dd tk_m_readSum 5 rfl) rfl (by first | decide | omega) K_m_is V_m_is.1 V_m_is.2 L_m_149 rfl (Nat.le_of_ble_eq_true rfl) (by decide) (Nat.lt_of_lt_of_le (by decide) uD1.1.1) (uD1.1.2.1 0 (by decide)) rfl (D_is uD1 _) (fun v1 w1 h1 => ?_)
    obtain ⟨rfl, rfl⟩ := h1
    refine x_if_ne_f 14 (ab_dd tk_m_readSum 6 rfl) rfl 23 (by decide) (by decide) ?_
    refine x_aload_n 15 0 (ab_dd tk_m_readSum 7 rfl) rfl rfl rfl ?_
    refine x_bipush 17 33 (ab_dd tk_m_readSum 8 rfl) rfl (by decide) (x_topn 33 rfl ?_)
    refine t_callV 20 M_m_is 0 1 [_] (ab_dd tk_m_readSum 9 rfl) rfl (by first | decide | omega) K_m_is V_m_is.1 V_m_is.2 L_m_149 rfl (Nat.le_of_ble_eq_true rfl) (by decide) (Nat.lt_of_lt_of_le (by decide) uD1.1.1) (uD1.1.2.1 0 (by decide)) rfl (D_is uD1 _) (fun v1 w1 h1 => ?_)
    obtain ⟨rfl, rfl⟩ := h1
    refine x_if_eq_t 59 (ab_dd tk_m_readSum 10 rfl) (by decide) (by decide) ?_
    have hsp : pS tp n la (f + 1) 2 deep p = .inl e1 := by
      show qSq _ 1 7 deep p = _
      unfold qSq
      rw [hX1]
      rfl
    exact x_vret (ab_dd tk_m_readSum 28 rfl) ⟨rfl, _, rfl, (rF.rf.tr uF1), by rw [hsp]; exact uD1⟩
  · rw [hX1] at uO1
    have uL1 : rL U1 tp n q1 := uO1.1
    have uC1 := uO1.2
    have hg1 := pS_len _ _ _ _ _ _ hL.2.2.2.2.2.1 hX1
    obtain ⟨hga1, hgb1, hgc1, hgd1⟩ := hg1
    have hge1 := hgd1 (by decide)
    have uf1 : sI U1 124 = appC N (sI S 124) c1 := uC1.trans (congrArg (fun z => appC N z c1) rfl)
    exact lp f (Nat.le_refl _) _ _ _ _ (rF.rf.tr uF1) uL1 uf1 (by first | omega | (simp only [List.length_append, List.length_cons, List.length_nil]; omega)) (by omega) (by show qSq _ 1 7 deep p = _; unfold qSq; rw [hX1]; rfl)
theorem j_readBoth {G : ab_G} {tp : Nat → Nat} {n la f : Nat} (hla : la < 2) (hA : ∀ g, g ≤ f → JM G tp n la M_m_readUnit 3 4 g) : JM G tp n la M_m_readBoth 4 5 (f + 1) := by
  intro S N deep p hL hr hN hNp hdeep hfu
  have hp := hL.2.2.2.2.2.1
  have hn9 := hL.2.2.2.1
  have hk42 := tK_lt tp n p
  have hr42 := tN_lt (tp := tp) hp
  refine x_enter [some (.ref 120), some (.int (nI deep))] (by decide) (Nat.le_of_ble_eq_true rfl) rfl (fun v w' h => by obtain ⟨rfl, -⟩ := h; trivial) ?_
  have lp : ∀ g, g ≤ f → ∀ (U : ab_S) (q : Nat) (Cs : List Nat), rF S U → rL U tp n q → sI U 124 = appC N (sI S 124) Cs → N + Cs.length ≤ q → 8 * (n - q) < g → pS tp n la (f + 1) 4 deep p = pB (pS tp n la g 8 deep q) (fun r d => .inr (r, Cs ++ d)) → ab_Ex G (10 * (6 - deep) + 11 + 5) M_m_readBoth 5 [some (.ref 120), some (.int (nI deep))] [] (sw U) (rOut S tp n N (pS tp n la (f + 1) 4 deep p)) := by
    intro g
    induction g with
    | zero => intro _ U q Cs _ _ _ _ z; exact absurd z (by omega)
    | succ g ih =>
      intro hgf U q Cs uF0 uL0 uf0 hCq hfq hsp0
      have hq := uL0.2.2.2.2.2.1
      have hq42 := tK_lt tp n q
      have hun : pS tp n la (g + 1) 8 deep q = if 18 ≤ tK tp n q ∧ tK tp n q ≤ 18 then pB (pS tp n la g 3 deep (tE tp n q)) (fun q1 c => pB (pS tp n la g 8 deep q1) (fun r d => .inr (r, c ++ (3007 + (tK tp n q - 18)) :: d))) else .inr (q, []) := rfl
      refine x_aload_n 6 0 (ab_dd tk_m_readBoth 3 rfl) rfl rfl rfl ?_
      refine x_bipush 8 18 (ab_dd tk_m_readBoth 4 rfl) rfl (by decide) (x_topn 18 rfl ?_)
      refine t_callV 11 M_m_eats 6 1 [_] (ab_dd tk_m_readBoth 5 rfl) rfl (by first | decide | omega) K_m_eats V_m_eats.1 V_m_eats.2 L_m_178 rfl (Nat.le_of_ble_eq_true rfl) (by decide) (Nat.lt_of_lt_of_le (by decide) uL0.1.1) (uL0.1.2.1 0 (by decide)) rfl (L_eats uL0 18 (by decide) (by decide)) (fun v1 w1 h1 => ?_)
      rcases h1 with ⟨hk1, rfl, U1, rfl, uF1, uC1, uL1⟩ | ⟨hk1, rfl, rfl⟩
      · have ht1 := tE_g hq (show tK tp n q ≠ 24 by omega)
        refine x_if_eq_f 14 (ab_dd tk_m_readBoth 6 rfl) rfl 29 (by decide) (by decide) ?_
        refine x_aload_n 15 0 (ab_dd tk_m_readBoth 7 rfl) rfl rfl rfl ?_
        refine x_iload_n 16 1 (ab_dd tk_m_readBoth 8 rfl) rfl rfl rfl ?_
        refine t_callV 19 M_m_readUnit (10 * (6 - deep) + 11 + 4) 1 [_] (ab_dd tk_m_readBoth 9 rfl) rfl (by omega) K_m_readUnit V_m_readUnit.1 V_m_readUnit.2 L_m_193 rfl (Nat.le_of_ble_eq_true rfl) (by decide) (Nat.lt_of_lt_of_le (by decide) uL1.1.1) (uL1.1.2.1 0 (by decide)) rfl (hA g (by omega) _ _ deep (tE tp n q) uL1 (by exact ((uF0.tr uF1).2 15 (by omega)).trans hr) ((congrFun (uC1.trans uf0) 183).trans (appC_N _ _ _)) (by first | omega | (simp only [List.length_append, List.length_cons, List.length_nil]; omega)) (by omega) (by omega)) (fun v1 w1 h1 => ?_)
        obtain ⟨rfl, U2, rfl, uF2, uO2⟩ := h1
        rcases hX2 : pS tp n la g 3 deep (tE tp n q) with e2 | ⟨q2, c2⟩
        · rw [hX2] at uO2
          have uD2 : rD U2 e2 := uO2
          have hu2 := uD2.2.2.2
          refine x_aload_n 20 0 (ab_dd tk_m_readBoth 10 rfl) rfl rfl rfl ?_
          refine x_sipush 23 3007 (ab_dd tk_m_readBoth 11 rfl) rfl (by decide) (x_topn 3007 rfl ?_)
          refine t_callV 26 M_m_codes 0 1 [_] (ab_dd tk_m_readBoth 12 rfl) rfl (by first | decide | omega) K_m_codes V_m_codes.1 V_m_codes.2 L_m_166 rfl (Nat.le_of_ble_eq_true rfl) (by decide) (Nat.lt_of_lt_of_le (by decide) uD2.1.1) (uD2.1.2.1 0 (by decide)) rfl (D_codes uD2 _) (fun v1 w1 h1 => ?_)
          obtain ⟨rfl, rfl⟩ := h1
          refine x_goto 5 (ab_dd tk_m_readBoth 13 rfl) (by decide) ?_
          refine x_aload_n 6 0 (ab_dd tk_m_readBoth 3 rfl) rfl rfl rfl ?_
          refine x_bipush 8 18 (ab_dd tk_m_readBoth 4 rfl) rfl (by decide) (x_topn 18 rfl ?_)
          refine t_callV 11 M_m_eats 6 1 [_] (ab_dd tk_m_readBoth 5 rfl) rfl (by first | decide | omega) K_m_eats V_m_eats.1 V_m_eats.2 L_m_178 rfl (Nat.le_of_ble_eq_true rfl) (by decide) (Nat.lt_of_lt_of_le (by decide) uD2.1.1) (uD2.1.2.1 0 (by decide)) rfl (D_eats uD2 _) (fun v1 w1 h1 => ?_)
          obtain ⟨rfl, rfl⟩ := h1
          refine x_if_eq_t 29 (ab_dd tk_m_readBoth 6 rfl) (by decide) (by decide) ?_
          have hsp : pS tp n la (f + 1) 4 deep p = .inl e2 := by
            rw [hsp0, hun, if_pos (by omega), hX2]
            rfl
          exact x_vret (ab_dd tk_m_readBoth 14 rfl) ⟨rfl, _, rfl, ((uF0.tr uF1).tr uF2), by rw [hsp]; exact uD2⟩
        · rw [hX2] at uO2
          have uL2 : rL U2 tp n q2 := uO2.1
          have uC2 := uO2.2
          have hg2 := pS_len _ _ _ _ _ _ uL1.2.2.2.2.2.1 hX2
          obtain ⟨hga2, hgb2, hgc2, hgd2⟩ := hg2
          have hge2 := hgd2 (by decide)
          have uf2 : sI U2 124 = appC N (sI S 124) (Cs ++ c2) := by rw [uC2, (uC1.trans uf0), appC_app]
          refine x_aload_n 20 0 (ab_dd tk_m_readBoth 10 rfl) rfl rfl rfl ?_
          refine x_sipush 23 3007 (ab_dd tk_m_readBoth 11 rfl) rfl (by decide) (x_topn 3007 rfl ?_)
          refine t_callV 26 M_m_codes 0 1 [_] (ab_dd tk_m_readBoth 12 rfl) rfl (by first | decide | omega) K_m_codes V_m_codes.1 V_m_codes.2 L_m_166 rfl (Nat.le_of_ble_eq_true rfl) (by decide) (Nat.lt_of_lt_of_le (by decide) uL2.1.1) (uL2.1.2.1 0 (by decide)) rfl (L_codes uL2 ((congrFun uf2 183).trans (appC_N _ _ _)) (by first | omega | (simp only [List.length_append, List.length_cons, List.length_nil]; omega)) 3007) (fun v1 w1 h1 => ?_)
          obtain ⟨rfl, U3, rfl, uF3, uC3, uL3⟩ := h1
          have uf3 : sI U3 124 = appC N (sI S 124) ((Cs ++ c2) ++ [3007]) := by rw [uC3, uf2, appC_app]
          refine x_goto 5 (ab_dd tk_m_readBoth 13 rfl) (by decide) ?_
          rw [show 3007 + (tK tp n q - 18) = 3007 by omega] at hun
          exact ih (by omega) _ _ _ (((uF0.tr uF1).tr uF2).tr uF3) uL3 uf3 (by first | omega | (simp only [List.length_append, List.length_cons, List.length_nil]; omega)) (by omega) (by rw [hsp0, hun, if_pos (by omega), hX2]; exact pB_as _ _ _ _)
      · skip
        refine x_if_eq_t 29 (ab_dd tk_m_readBoth 6 rfl) (by decide) (by decide) ?_
        have hsp : pS tp n la (f + 1) 4 deep p = .inr (q, Cs) := by
          rw [hsp0, hun, if_neg (by omega)]
          show Sum.inr (q, Cs ++ []) = _
          rw [List.append_nil]
        exact x_vret (ab_dd tk_m_readBoth 14 rfl) ⟨rfl, _, rfl, uF0, by rw [hsp]; exact ⟨uL0, uf0⟩⟩
  refine x_aload_n 1 0 (ab_dd tk_m_readBoth 0 rfl) rfl rfl rfl ?_
  refine x_iload_n 2 1 (ab_dd tk_m_readBoth 1 rfl) rfl rfl rfl ?_
  refine t_callV 5 M_m_readUnit (10 * (6 - deep) + 11 + 4) 1 [_] (ab_dd tk_m_readBoth 2 rfl) rfl (by omega) K_m_readUnit V_m_readUnit.1 V_m_readUnit.2 L_m_193 rfl (Nat.le_of_ble_eq_true rfl) (by decide) (Nat.lt_of_lt_of_le (by decide) hL.1.1) (hL.1.2.1 0 (by decide)) rfl (hA f (Nat.le_refl _) _ _ deep p hL (by exact (rF.rf.2 15 (by omega)).trans hr) ((congrFun rfl 183).trans hN) (by first | omega | (simp only [List.length_append, List.length_cons, List.length_nil]; omega)) (by omega) (by omega)) (fun v1 w1 h1 => ?_)
  obtain ⟨rfl, U1, rfl, uF1, uO1⟩ := h1
  rcases hX1 : pS tp n la f 3 deep p with e1 | ⟨q1, c1⟩
  · rw [hX1] at uO1
    have uD1 : rD U1 e1 := uO1
    have hu1 := uD1.2.2.2
    refine x_aload_n 6 0 (ab_dd tk_m_readBoth 3 rfl) rfl rfl rfl ?_
    refine x_bipush 8 18 (ab_dd tk_m_readBoth 4 rfl) rfl (by decide) (x_topn 18 rfl ?_)
    refine t_callV 11 M_m_eats 6 1 [_] (ab_dd tk_m_readBoth 5 rfl) rfl (by first | decide | omega) K_m_eats V_m_eats.1 V_m_eats.2 L_m_178 rfl (Nat.le_of_ble_eq_true rfl) (by decide) (Nat.lt_of_lt_of_le (by decide) uD1.1.1) (uD1.1.2.1 0 (by decide)) rfl (D_eats uD1 _) (fun v1 w1 h1 => ?_)
    obtain ⟨rfl, rfl⟩ := h1
    refine x_if_eq_t 29 (ab_dd tk_m_readBoth 6 rfl) (by decide) (by decide) ?_
    have hsp : pS tp n la (f + 1) 4 deep p = .inl e1 := by
      show qSq _ 3 8 deep p = _
      unfold qSq
      rw [hX1]
      rfl
    exact x_vret (ab_dd tk_m_readBoth 14 rfl) ⟨rfl, _, rfl, (rF.rf.tr uF1), by rw [hsp]; exact uD1⟩
  · rw [hX1] at uO1
    have uL1 : rL U1 tp n q1 := uO1.1
    have uC1 := uO1.2
    have hg1 := pS_len _ _ _ _ _ _ hL.2.2.2.2.2.1 hX1
    obtain ⟨hga1, hgb1, hgc1, hgd1⟩ := hg1
    have hge1 := hgd1 (by decide)
    have uf1 : sI U1 124 = appC N (sI S 124) c1 := uC1.trans (congrArg (fun z => appC N z c1) rfl)
    exact lp f (Nat.le_refl _) _ _ _ (rF.rf.tr uF1) uL1 uf1 (by first | omega | (simp only [List.length_append, List.length_cons, List.length_nil]; omega)) (by omega) (by show qSq _ 3 8 deep p = _; unfold qSq; rw [hX1]; rfl)
theorem j_readTruth {G : ab_G} {tp : Nat → Nat} {n la f : Nat} (hla : la < 2) (hA : ∀ g, g ≤ f → JM G tp n la M_m_readBoth 4 5 g) : JM G tp n la M_m_readTruth 5 6 (f + 1) := by
  intro S N deep p hL hr hN hNp hdeep hfu
  have hp := hL.2.2.2.2.2.1
  have hn9 := hL.2.2.2.1
  have hk42 := tK_lt tp n p
  have hr42 := tN_lt (tp := tp) hp
  refine x_enter [some (.ref 120), some (.int (nI deep))] (by decide) (Nat.le_of_ble_eq_true rfl) rfl (fun v w' h => by obtain ⟨rfl, -⟩ := h; trivial) ?_
  have lp : ∀ g, g ≤ f → ∀ (U : ab_S) (q : Nat) (Cs : List Nat), rF S U → rL U tp n q → sI U 124 = appC N (sI S 124) Cs → N + Cs.length ≤ q → 8 * (n - q) < g → pS tp n la (f + 1) 5 deep p = pB (pS tp n la g 9 deep q) (fun r d => .inr (r, Cs ++ d)) → ab_Ex G (10 * (6 - deep) + 11 + 6) M_m_readTruth 5 [some (.ref 120), some (.int (nI deep))] [] (sw U) (rOut S tp n N (pS tp n la (f + 1) 5 deep p)) := by
    intro g
    induction g with
    | zero => intro _ U q Cs _ _ _ _ z; exact absurd z (by omega)
    | succ g ih =>
      intro hgf U q Cs uF0 uL0 uf0 hCq hfq hsp0
      have hq := uL0.2.2.2.2.2.1
      have hq42 := tK_lt tp n q
      have hun : pS tp n la (g + 1) 9 deep q = if 19 ≤ tK tp n q ∧ tK tp n q ≤ 19 then pB (pS tp n la g 4 deep (tE tp n q)) (fun q1 c => pB (pS tp n la g 9 deep q1) (fun r d => .inr (r, c ++ (3008 + (tK tp n q - 19)) :: d))) else .inr (q, []) := rfl
      refine x_aload_n 6 0 (ab_dd tk_m_readTruth 3 rfl) rfl rfl rfl ?_
      refine x_bipush 8 19 (ab_dd tk_m_readTruth 4 rfl) rfl (by decide) (x_topn 19 rfl ?_)
      refine t_callV 11 M_m_eats 6 1 [_] (ab_dd tk_m_readTruth 5 rfl) rfl (by first | decide | omega) K_m_eats V_m_eats.1 V_m_eats.2 L_m_178 rfl (Nat.le_of_ble_eq_true rfl) (by decide) (Nat.lt_of_lt_of_le (by decide) uL0.1.1) (uL0.1.2.1 0 (by decide)) rfl (L_eats uL0 19 (by decide) (by decide)) (fun v1 w1 h1 => ?_)
      rcases h1 with ⟨hk1, rfl, U1, rfl, uF1, uC1, uL1⟩ | ⟨hk1, rfl, rfl⟩
      · have ht1 := tE_g hq (show tK tp n q ≠ 24 by omega)
        refine x_if_eq_f 14 (ab_dd tk_m_readTruth 6 rfl) rfl 29 (by decide) (by decide) ?_
        refine x_aload_n 15 0 (ab_dd tk_m_readTruth 7 rfl) rfl rfl rfl ?_
        refine x_iload_n 16 1 (ab_dd tk_m_readTruth 8 rfl) rfl rfl rfl ?_
        refine t_callV 19 M_m_readBoth (10 * (6 - deep) + 11 + 5) 1 [_] (ab_dd tk_m_readTruth 9 rfl) rfl (by omega) K_m_readBoth V_m_readBoth.1 V_m_readBoth.2 L_m_196 rfl (Nat.le_of_ble_eq_true rfl) (by decide) (Nat.lt_of_lt_of_le (by decide) uL1.1.1) (uL1.1.2.1 0 (by decide)) rfl (hA g (by omega) _ _ deep (tE tp n q) uL1 (by exact ((uF0.tr uF1).2 15 (by omega)).trans hr) ((congrFun (uC1.trans uf0) 183).trans (appC_N _ _ _)) (by first | omega | (simp only [List.length_append, List.length_cons, List.length_nil]; omega)) (by omega) (by omega)) (fun v1 w1 h1 => ?_)
        obtain ⟨rfl, U2, rfl, uF2, uO2⟩ := h1
        rcases hX2 : pS tp n la g 4 deep (tE tp n q) with e2 | ⟨q2, c2⟩
        · rw [hX2] at uO2
          have uD2 : rD U2 e2 := uO2
          have hu2 := uD2.2.2.2
          refine x_aload_n 20 0 (ab_dd tk_m_readTruth 10 rfl) rfl rfl rfl ?_
          refine x_sipush 23 3008 (ab_dd tk_m_readTruth 11 rfl) rfl (by decide) (x_topn 3008 rfl ?_)
          refine t_callV 26 M_m_codes 0 1 [_] (ab_dd tk_m_readTruth 12 rfl) rfl (by first | decide | omega) K_m_codes V_m_codes.1 V_m_codes.2 L_m_166 rfl (Nat.le_of_ble_eq_true rfl) (by decide) (Nat.lt_of_lt_of_le (by decide) uD2.1.1) (uD2.1.2.1 0 (by decide)) rfl (D_codes uD2 _) (fun v1 w1 h1 => ?_)
          obtain ⟨rfl, rfl⟩ := h1
          refine x_goto 5 (ab_dd tk_m_readTruth 13 rfl) (by decide) ?_
          refine x_aload_n 6 0 (ab_dd tk_m_readTruth 3 rfl) rfl rfl rfl ?_
          refine x_bipush 8 19 (ab_dd tk_m_readTruth 4 rfl) rfl (by decide) (x_topn 19 rfl ?_)
          refine t_callV 11 M_m_eats 6 1 [_] (ab_dd tk_m_readTruth 5 rfl) rfl (by first | decide | omega) K_m_eats V_m_eats.1 V_m_eats.2 L_m_178 rfl (Nat.le_of_ble_eq_true rfl) (by decide) (Nat.lt_of_lt_of_le (by decide) uD2.1.1) (uD2.1.2.1 0 (by decide)) rfl (D_eats uD2 _) (fun v1 w1 h1 => ?_)
          obtain ⟨rfl, rfl⟩ := h1
          refine x_if_eq_t 29 (ab_dd tk_m_readTruth 6 rfl) (by decide) (by decide) ?_
          have hsp : pS tp n la (f + 1) 5 deep p = .inl e2 := by
            rw [hsp0, hun, if_pos (by omega), hX2]
            rfl
          exact x_vret (ab_dd tk_m_readTruth 14 rfl) ⟨rfl, _, rfl, ((uF0.tr uF1).tr uF2), by rw [hsp]; exact uD2⟩
        · rw [hX2] at uO2
          have uL2 : rL U2 tp n q2 := uO2.1
          have uC2 := uO2.2
          have hg2 := pS_len _ _ _ _ _ _ uL1.2.2.2.2.2.1 hX2
          obtain ⟨hga2, hgb2, hgc2, hgd2⟩ := hg2
          have hge2 := hgd2 (by decide)
          have uf2 : sI U2 124 = appC N (sI S 124) (Cs ++ c2) := by rw [uC2, (uC1.trans uf0), appC_app]
          refine x_aload_n 20 0 (ab_dd tk_m_readTruth 10 rfl) rfl rfl rfl ?_
          refine x_sipush 23 3008 (ab_dd tk_m_readTruth 11 rfl) rfl (by decide) (x_topn 3008 rfl ?_)
          refine t_callV 26 M_m_codes 0 1 [_] (ab_dd tk_m_readTruth 12 rfl) rfl (by first | decide | omega) K_m_codes V_m_codes.1 V_m_codes.2 L_m_166 rfl (Nat.le_of_ble_eq_true rfl) (by decide) (Nat.lt_of_lt_of_le (by decide) uL2.1.1) (uL2.1.2.1 0 (by decide)) rfl (L_codes uL2 ((congrFun uf2 183).trans (appC_N _ _ _)) (by first | omega | (simp only [List.length_append, List.length_cons, List.length_nil]; omega)) 3008) (fun v1 w1 h1 => ?_)
          obtain ⟨rfl, U3, rfl, uF3, uC3, uL3⟩ := h1
          have uf3 : sI U3 124 = appC N (sI S 124) ((Cs ++ c2) ++ [3008]) := by rw [uC3, uf2, appC_app]
          refine x_goto 5 (ab_dd tk_m_readTruth 13 rfl) (by decide) ?_
          rw [show 3008 + (tK tp n q - 19) = 3008 by omega] at hun
          exact ih (by omega) _ _ _ (((uF0.tr uF1).tr uF2).tr uF3) uL3 uf3 (by first | omega | (simp only [List.length_append, List.length_cons, List.length_nil]; omega)) (by omega) (by rw [hsp0, hun, if_pos (by omega), hX2]; exact pB_as _ _ _ _)
      · skip
        refine x_if_eq_t 29 (ab_dd tk_m_readTruth 6 rfl) (by decide) (by decide) ?_
        have hsp : pS tp n la (f + 1) 5 deep p = .inr (q, Cs) := by
          rw [hsp0, hun, if_neg (by omega)]
          show Sum.inr (q, Cs ++ []) = _
          rw [List.append_nil]
        exact x_vret (ab_dd tk_m_readTruth 14 rfl) ⟨rfl, _, rfl, uF0, by rw [hsp]; exact ⟨uL0, uf0⟩⟩
  refine x_aload_n 1 0 (ab_dd tk_m_readTruth 0 rfl) rfl rfl rfl ?_
  refine x_iload_n 2 1 (ab_dd tk_m_readTruth 1 rfl) rfl rfl rfl ?_
  refine t_callV 5 M_m_readBoth (10 * (6 - deep) + 11 + 5) 1 [_] (ab_dd tk_m_readTruth 2 rfl) rfl (by omega) K_m_readBoth V_m_readBoth.1 V_m_readBoth.2 L_m_196 rfl (Nat.le_of_ble_eq_true rfl) (by decide) (Nat.lt_of_lt_of_le (by decide) hL.1.1) (hL.1.2.1 0 (by decide)) rfl (hA f (Nat.le_refl _) _ _ deep p hL (by exact (rF.rf.2 15 (by omega)).trans hr) ((congrFun rfl 183).trans hN) (by first | omega | (simp only [List.length_append, List.length_cons, List.length_nil]; omega)) (by omega) (by omega)) (fun v1 w1 h1 => ?_)
  obtain ⟨rfl, U1, rfl, uF1, uO1⟩ := h1
  rcases hX1 : pS tp n la f 4 deep p with e1 | ⟨q1, c1⟩
  · rw [hX1] at uO1
    have uD1 : rD U1 e1 := uO1
    have hu1 := uD1.2.2.2
    refine x_aload_n 6 0 (ab_dd tk_m_readTruth 3 rfl) rfl rfl rfl ?_
    refine x_bipush 8 19 (ab_dd tk_m_readTruth 4 rfl) rfl (by decide) (x_topn 19 rfl ?_)
    refine t_callV 11 M_m_eats 6 1 [_] (ab_dd tk_m_readTruth 5 rfl) rfl (by first | decide | omega) K_m_eats V_m_eats.1 V_m_eats.2 L_m_178 rfl (Nat.le_of_ble_eq_true rfl) (by decide) (Nat.lt_of_lt_of_le (by decide) uD1.1.1) (uD1.1.2.1 0 (by decide)) rfl (D_eats uD1 _) (fun v1 w1 h1 => ?_)
    obtain ⟨rfl, rfl⟩ := h1
    refine x_if_eq_t 29 (ab_dd tk_m_readTruth 6 rfl) (by decide) (by decide) ?_
    have hsp : pS tp n la (f + 1) 5 deep p = .inl e1 := by
      show qSq _ 4 9 deep p = _
      unfold qSq
      rw [hX1]
      rfl
    exact x_vret (ab_dd tk_m_readTruth 14 rfl) ⟨rfl, _, rfl, (rF.rf.tr uF1), by rw [hsp]; exact uD1⟩
  · rw [hX1] at uO1
    have uL1 : rL U1 tp n q1 := uO1.1
    have uC1 := uO1.2
    have hg1 := pS_len _ _ _ _ _ _ hL.2.2.2.2.2.1 hX1
    obtain ⟨hga1, hgb1, hgc1, hgd1⟩ := hg1
    have hge1 := hgd1 (by decide)
    have uf1 : sI U1 124 = appC N (sI S 124) c1 := uC1.trans (congrArg (fun z => appC N z c1) rfl)
    exact lp f (Nat.le_refl _) _ _ _ (rF.rf.tr uF1) uL1 uf1 (by first | omega | (simp only [List.length_append, List.length_cons, List.length_nil]; omega)) (by omega) (by show qSq _ 4 9 deep p = _; unfold qSq; rw [hX1]; rfl)
def tb_m_readIf : List (Nat × Instr × Nat) := [(0, .aload_n 0, 1), (1, .iload_n 1, 1), (2, .invokevirtual 172, 3), (5, .ifCond .ne 4, 3), (8, .return_, 1), (9, .aload_n 0, 1), (10, .iload_n 1, 1), (11, .iconst 1, 1), (12, .iadd, 1), (13, .invokevirtual 184, 3), (16, .aload_n 0, 1), (17, .bipush 10, 2), (19, .invokevirtual 178, 3), (22, .ifCond .ne 8, 3), (25, .aload_n 0, 1), (26, .iconst 2, 1), (27, .invokevirtual 155, 3), (30, .aload_n 0, 1), (31, .iload_n 1, 1), (32, .iconst 1, 1), (33, .iadd, 1), (34, .invokevirtual 175, 3), (37, .aload_n 0, 1), (38, .bipush 11, 2), (40, .invokevirtual 178, 3), (43, .ifCond .ne 8, 3), (46, .aload_n 0, 1), (47, .iconst 2, 1), (48, .invokevirtual 155, 3), (51, .aload_n 0, 1), (52, .iload_n 1, 1), (53, .iconst 1, 1), (54, .iadd, 1), (55, .invokevirtual 175, 3), (58, .aload_n 0, 1), (59, .bipush 12, 2), (61, .invokevirtual 178, 3), (64, .ifCond .ne 8, 3), (67, .aload_n 0, 1), (68, .iconst 2, 1), (69, .invokevirtual 155, 3), (72, .aload_n 0, 1), (73, .sipush 3009, 3), (76, .invokevirtual 166, 3), (79, .return_, 1)]
theorem tk_m_readIf : ∀ q ∈ tb_m_readIf, decode M_m_readIf.2.1 q.1 = .ok q.2 := by decide +kernel
theorem j_readIf {G : ab_G} {tp : Nat → Nat} {n la f : Nat} (hla : la < 2) (hS : JM G tp n la M_m_readSum 2 3 f) (hR : JM G tp n la M_m_readTruth 5 6 f) : ∀ (S : ab_S) (N deep p : Nat), rL S tp n p → sI S 120 15 = nI la → sI S 124 183 = nI N → N ≤ p → deep ≤ 6 → tK tp n p = 9 → 8 * (n - p) < f → ab_C G (10 * (6 - deep) + 11) M_m_readIf [.ref 120, .int (nI deep)] (sw S) (rOut S tp n N (qIf tp n (pS tp n la f) deep p)) := by
  intro S N deep p hL hr hN hNp hdeep hk9 hfu
  have hp := hL.2.2.2.2.2.1
  have hn9 := hL.2.2.2.1
  have hk42 := tK_lt tp n p
  have hr42 := tN_lt (tp := tp) hp
  refine x_enter [some (.ref 120), some (.int (nI deep))] (by decide) (Nat.le_of_ble_eq_true rfl) rfl (fun v w' h => by obtain ⟨rfl, -⟩ := h; trivial) ?_
  refine x_aload_n 1 0 (ab_dd tk_m_readIf 0 rfl) rfl rfl rfl ?_
  refine x_iload_n 2 1 (ab_dd tk_m_readIf 1 rfl) rfl rfl rfl ?_
  refine t_callV 5 M_m_goesIn 6 1 [_] (ab_dd tk_m_readIf 2 rfl) rfl (by first | decide | omega) K_m_goesIn V_m_goesIn.1 V_m_goesIn.2 L_m_172 rfl (Nat.le_of_ble_eq_true rfl) (by decide) (Nat.lt_of_lt_of_le (by decide) hL.1.1) (hL.1.2.1 0 (by decide)) rfl (L_goesIn hL deep hdeep (by omega) (by omega)) (fun v1 w1 h1 => ?_)
  rcases h1 with ⟨hd1, rfl, U1, rfl, uF1, uD1⟩ | ⟨hd1, rfl, U1, rfl, uF1, uC1, uL1⟩
  · have hu1 := uD1.2.2.2
    refine x_if_ne_f 8 (ab_dd tk_m_readIf 3 rfl) rfl 9 (by decide) (by decide) ?_
    have hsp : qIf tp n (pS tp n la f) deep p = .inl (pE tp n p 4) := by
      unfold qIf
      rw [if_pos hd1]
      try rfl
    exact x_vret (ab_dd tk_m_readIf 4 rfl) ⟨rfl, _, rfl, (rF.rf.tr uF1), by rw [hsp]; exact uD1⟩
  · have ht1 := tE_g hL.2.2.2.2.2.1 (show tK tp n p ≠ 24 by omega)
    refine x_if_ne_t 9 (ab_dd tk_m_readIf 3 rfl) (by decide) (by decide) ?_
    refine x_aload_n 10 0 (ab_dd tk_m_readIf 5 rfl) rfl rfl rfl ?_
    refine x_iload_n 11 1 (ab_dd tk_m_readIf 6 rfl) rfl rfl rfl ?_
    refine x_iconst 12 1 (ab_dd tk_m_readIf 7 rfl) rfl (by decide) (x_topn 1 rfl ?_)
    refine x_iadd 13 (ab_dd tk_m_readIf 8 rfl) rfl (x_topn (deep + 1) (nI_add _ _) ?_)
    refine t_callV 16 M_m_readTruth (10 * (6 - (deep + 1)) + 11 + 6) 1 [_] (ab_dd tk_m_readIf 9 rfl) rfl (by omega) K_m_readTruth V_m_readTruth.1 V_m_readTruth.2 L_m_184 rfl (Nat.le_of_ble_eq_true rfl) (by decide) (Nat.lt_of_lt_of_le (by decide) uL1.1.1) (uL1.1.2.1 0 (by decide)) rfl (hR _ _ (deep + 1) (tE tp n p) uL1 (by exact ((rF.rf.tr uF1).2 15 (by omega)).trans hr) ((congrFun (uC1.trans rfl) 183).trans hN) (by first | omega | (simp only [List.length_append, List.length_cons, List.length_nil]; omega)) (by omega) (by omega)) (fun v1 w1 h1 => ?_)
    obtain ⟨rfl, U2, rfl, uF2, uO2⟩ := h1
    rcases hX2 : pS tp n la f 5 (deep + 1) (tE tp n p) with e2 | ⟨q2, c2⟩
    · rw [hX2] at uO2
      have uD2 : rD U2 e2 := uO2
      have hu2 := uD2.2.2.2
      refine x_aload_n 17 0 (ab_dd tk_m_readIf 10 rfl) rfl rfl rfl ?_
      refine x_bipush 19 10 (ab_dd tk_m_readIf 11 rfl) rfl (by decide) (x_topn 10 rfl ?_)
      refine t_callV 22 M_m_eats 6 1 [_] (ab_dd tk_m_readIf 12 rfl) rfl (by first | decide | omega) K_m_eats V_m_eats.1 V_m_eats.2 L_m_178 rfl (Nat.le_of_ble_eq_true rfl) (by decide) (Nat.lt_of_lt_of_le (by decide) uD2.1.1) (uD2.1.2.1 0 (by decide)) rfl (D_eats uD2 _) (fun v1 w1 h1 => ?_)
      obtain ⟨rfl, rfl⟩ := h1
      refine x_if_ne_f 25 (ab_dd tk_m_readIf 13 rfl) rfl 30 (by decide) (by decide) ?_
      refine x_aload_n 26 0 (ab_dd tk_m_readIf 14 rfl) rfl rfl rfl ?_
      refine x_iconst 27 2 (ab_dd tk_m_readIf 15 rfl) rfl (by decide) (x_topn 2 rfl ?_)
      refine t_callV 30 M_m_fails 0 1 [_] (ab_dd tk_m_readIf 16 rfl) rfl (by first | decide | omega) K_m_fails V_m_fails.1 V_m_fails.2 L_m_155 rfl (Nat.le_of_ble_eq_true rfl) (by decide) (Nat.lt_of_lt_of_le (by decide) uD2.1.1) (uD2.1.2.1 0 (by decide)) rfl (D_fails uD2 _) (fun v1 w1 h1 => ?_)
      obtain ⟨rfl, rfl⟩ := h1
      refine x_aload_n 31 0 (ab_dd tk_m_readIf 17 rfl) rfl rfl rfl ?_
      refine x_iload_n 32 1 (ab_dd tk_m_readIf 18 rfl) rfl rfl rfl ?_
      refine x_iconst 33 1 (ab_dd tk_m_readIf 19 rfl) rfl (by decide) (x_topn 1 rfl ?_)
      refine x_iadd 34 (ab_dd tk_m_readIf 20 rfl) rfl (x_topn (deep + 1) (nI_add _ _) ?_)
      refine t_callV 37 M_m_readSum 9 1 [_] (ab_dd tk_m_readIf 21 rfl) rfl (by omega) K_m_readSum V_m_readSum.1 V_m_readSum.2 L_m_175 rfl (Nat.le_of_ble_eq_true rfl) (by decide) (Nat.lt_of_lt_of_le (by decide) uD2.1.1) (uD2.1.2.1 0 (by decide)) rfl (D_readSum uD2 _) (fun v1 w1 h1 => ?_)
      obtain ⟨rfl, rfl⟩ := h1
      refine x_aload_n 38 0 (ab_dd tk_m_readIf 22 rfl) rfl rfl rfl ?_
      refine x_bipush 40 11 (ab_dd tk_m_readIf 23 rfl) rfl (by decide) (x_topn 11 rfl ?_)
      refine t_callV 43 M_m_eats 6 1 [_] (ab_dd tk_m_readIf 24 rfl) rfl (by first | decide | omega) K_m_eats V_m_eats.1 V_m_eats.2 L_m_178 rfl (Nat.le_of_ble_eq_true rfl) (by decide) (Nat.lt_of_lt_of_le (by decide) uD2.1.1) (uD2.1.2.1 0 (by decide)) rfl (D_eats uD2 _) (fun v1 w1 h1 => ?_)
      obtain ⟨rfl, rfl⟩ := h1
      refine x_if_ne_f 46 (ab_dd tk_m_readIf 25 rfl) rfl 51 (by decide) (by decide) ?_
      refine x_aload_n 47 0 (ab_dd tk_m_readIf 26 rfl) rfl rfl rfl ?_
      refine x_iconst 48 2 (ab_dd tk_m_readIf 27 rfl) rfl (by decide) (x_topn 2 rfl ?_)
      refine t_callV 51 M_m_fails 0 1 [_] (ab_dd tk_m_readIf 28 rfl) rfl (by first | decide | omega) K_m_fails V_m_fails.1 V_m_fails.2 L_m_155 rfl (Nat.le_of_ble_eq_true rfl) (by decide) (Nat.lt_of_lt_of_le (by decide) uD2.1.1) (uD2.1.2.1 0 (by decide)) rfl (D_fails uD2 _) (fun v1 w1 h1 => ?_)
      obtain ⟨rfl, rfl⟩ := h1
      refine x_aload_n 52 0 (ab_dd tk_m_readIf 29 rfl) rfl rfl rfl ?_
      refine x_iload_n 53 1 (ab_dd tk_m_readIf 30 rfl) rfl rfl rfl ?_
      refine x_iconst 54 1 (ab_dd tk_m_readIf 31 rfl) rfl (by decide) (x_topn 1 rfl ?_)
      refine x_iadd 55 (ab_dd tk_m_readIf 32 rfl) rfl (x_topn (deep + 1) (nI_add _ _) ?_)
      refine t_callV 58 M_m_readSum 9 1 [_] (ab_dd tk_m_readIf 33 rfl) rfl (by omega) K_m_readSum V_m_readSum.1 V_m_readSum.2 L_m_175 rfl (Nat.le_of_ble_eq_true rfl) (by decide) (Nat.lt_of_lt_of_le (by decide) uD2.1.1) (uD2.1.2.1 0 (by decide)) rfl (D_readSum uD2 _) (fun v1 w1 h1 => ?_)
      obtain ⟨rfl, rfl⟩ := h1
      refine x_aload_n 59 0 (ab_dd tk_m_readIf 34 rfl) rfl rfl rfl ?_
      refine x_bipush 61 12 (ab_dd tk_m_readIf 35 rfl) rfl (by decide) (x_topn 12 rfl ?_)
      refine t_callV 64 M_m_eats 6 1 [_] (ab_dd tk_m_readIf 36 rfl) rfl (by first | decide | omega) K_m_eats V_m_eats.1 V_m_eats.2 L_m_178 rfl (Nat.le_of_ble_eq_true rfl) (by decide) (Nat.lt_of_lt_of_le (by decide) uD2.1.1) (uD2.1.2.1 0 (by decide)) rfl (D_eats uD2 _) (fun v1 w1 h1 => ?_)
      obtain ⟨rfl, rfl⟩ := h1
      refine x_if_ne_f 67 (ab_dd tk_m_readIf 37 rfl) rfl 72 (by decide) (by decide) ?_
      refine x_aload_n 68 0 (ab_dd tk_m_readIf 38 rfl) rfl rfl rfl ?_
      refine x_iconst 69 2 (ab_dd tk_m_readIf 39 rfl) rfl (by decide) (x_topn 2 rfl ?_)
      refine t_callV 72 M_m_fails 0 1 [_] (ab_dd tk_m_readIf 40 rfl) rfl (by first | decide | omega) K_m_fails V_m_fails.1 V_m_fails.2 L_m_155 rfl (Nat.le_of_ble_eq_true rfl) (by decide) (Nat.lt_of_lt_of_le (by decide) uD2.1.1) (uD2.1.2.1 0 (by decide)) rfl (D_fails uD2 _) (fun v1 w1 h1 => ?_)
      obtain ⟨rfl, rfl⟩ := h1
      refine x_aload_n 73 0 (ab_dd tk_m_readIf 41 rfl) rfl rfl rfl ?_
      refine x_sipush 76 3009 (ab_dd tk_m_readIf 42 rfl) rfl (by decide) (x_topn 3009 rfl ?_)
      refine t_callV 79 M_m_codes 0 1 [_] (ab_dd tk_m_readIf 43 rfl) rfl (by first | decide | omega) K_m_codes V_m_codes.1 V_m_codes.2 L_m_166 rfl (Nat.le_of_ble_eq_true rfl) (by decide) (Nat.lt_of_lt_of_le (by decide) uD2.1.1) (uD2.1.2.1 0 (by decide)) rfl (D_codes uD2 _) (fun v1 w1 h1 => ?_)
      obtain ⟨rfl, rfl⟩ := h1
      have hsp : qIf tp n (pS tp n la f) deep p = .inl (e2) := by
        unfold qIf
        rw [if_neg hd1]
        rw [hX2]
        try rfl
      exact x_vret (ab_dd tk_m_readIf 44 rfl) ⟨rfl, _, rfl, ((rF.rf.tr uF1).tr uF2), by rw [hsp]; exact uD2⟩
    · rw [hX2] at uO2
      have uL2 : rL U2 tp n q2 := uO2.1
      have uC2 := uO2.2
      have hg2 := pS_len _ _ _ _ _ _ uL1.2.2.2.2.2.1 hX2
      obtain ⟨hga2, hgb2, hgc2, hgd2⟩ := hg2
      have hge2 := hgd2 (by decide)
      have uf2 : sI U2 124 = appC N (sI S 124) c2 := uC2.trans (congrArg (fun z => appC N z c2) (uC1.trans rfl))
      refine x_aload_n 17 0 (ab_dd tk_m_readIf 10 rfl) rfl rfl rfl ?_
      refine x_bipush 19 10 (ab_dd tk_m_readIf 11 rfl) rfl (by decide) (x_topn 10 rfl ?_)
      refine t_callV 22 M_m_eats 6 1 [_] (ab_dd tk_m_readIf 12 rfl) rfl (by first | decide | omega) K_m_eats V_m_eats.1 V_m_eats.2 L_m_178 rfl (Nat.le_of_ble_eq_true rfl) (by decide) (Nat.lt_of_lt_of_le (by decide) uL2.1.1) (uL2.1.2.1 0 (by decide)) rfl (L_eats uL2 10 (by decide) (by decide)) (fun v1 w1 h1 => ?_)
      rcases h1 with ⟨hk3, rfl, U3, rfl, uF3, uC3, uL3⟩ | ⟨hk3, rfl, rfl⟩
      · have ht3 := tE_g uL2.2.2.2.2.2.1 (show tK tp n q2 ≠ 24 by omega)
        refine x_if_ne_t 30 (ab_dd tk_m_readIf 13 rfl) (by decide) (by decide) ?_
        refine x_aload_n 31 0 (ab_dd tk_m_readIf 17 rfl) rfl rfl rfl ?_
        refine x_iload_n 32 1 (ab_dd tk_m_readIf 18 rfl) rfl rfl rfl ?_
        refine x_iconst 33 1 (ab_dd tk_m_readIf 19 rfl) rfl (by decide) (x_topn 1 rfl ?_)
        refine x_iadd 34 (ab_dd tk_m_readIf 20 rfl) rfl (x_topn (deep + 1) (nI_add _ _) ?_)
        refine t_callV 37 M_m_readSum (10 * (6 - (deep + 1)) + 11 + 3) 1 [_] (ab_dd tk_m_readIf 21 rfl) rfl (by omega) K_m_readSum V_m_readSum.1 V_m_readSum.2 L_m_175 rfl (Nat.le_of_ble_eq_true rfl) (by decide) (Nat.lt_of_lt_of_le (by decide) uL3.1.1) (uL3.1.2.1 0 (by decide)) rfl (hS _ _ (deep + 1) (tE tp n q2) uL3 (by exact ((((rF.rf.tr uF1).tr uF2).tr uF3).2 15 (by omega)).trans hr) ((congrFun (uC3.trans uf2) 183).trans (appC_N _ _ _)) (by first | omega | (simp only [List.length_append, List.length_cons, List.length_nil]; omega)) (by omega) (by omega)) (fun v1 w1 h1 => ?_)
        obtain ⟨rfl, U4, rfl, uF4, uO4⟩ := h1
        rcases hX4 : pS tp n la f 2 (deep + 1) (tE tp n q2) with e4 | ⟨q4, c4⟩
        · rw [hX4] at uO4
          have uD4 : rD U4 e4 := uO4
          have hu4 := uD4.2.2.2
          refine x_aload_n 38 0 (ab_dd tk_m_readIf 22 rfl) rfl rfl rfl ?_
          refine x_bipush 40 11 (ab_dd tk_m_readIf 23 rfl) rfl (by decide) (x_topn 11 rfl ?_)
          refine t_callV 43 M_m_eats 6 1 [_] (ab_dd tk_m_readIf 24 rfl) rfl (by first | decide | omega) K_m_eats V_m_eats.1 V_m_eats.2 L_m_178 rfl (Nat.le_of_ble_eq_true rfl) (by decide) (Nat.lt_of_lt_of_le (by decide) uD4.1.1) (uD4.1.2.1 0 (by decide)) rfl (D_eats uD4 _) (fun v1 w1 h1 => ?_)
          obtain ⟨rfl, rfl⟩ := h1
          refine x_if_ne_f 46 (ab_dd tk_m_readIf 25 rfl) rfl 51 (by decide) (by decide) ?_
          refine x_aload_n 47 0 (ab_dd tk_m_readIf 26 rfl) rfl rfl rfl ?_
          refine x_iconst 48 2 (ab_dd tk_m_readIf 27 rfl) rfl (by decide) (x_topn 2 rfl ?_)
          refine t_callV 51 M_m_fails 0 1 [_] (ab_dd tk_m_readIf 28 rfl) rfl (by first | decide | omega) K_m_fails V_m_fails.1 V_m_fails.2 L_m_155 rfl (Nat.le_of_ble_eq_true rfl) (by decide) (Nat.lt_of_lt_of_le (by decide) uD4.1.1) (uD4.1.2.1 0 (by decide)) rfl (D_fails uD4 _) (fun v1 w1 h1 => ?_)
          obtain ⟨rfl, rfl⟩ := h1
          refine x_aload_n 52 0 (ab_dd tk_m_readIf 29 rfl) rfl rfl rfl ?_
          refine x_iload_n 53 1 (ab_dd tk_m_readIf 30 rfl) rfl rfl rfl ?_
          refine x_iconst 54 1 (ab_dd tk_m_readIf 31 rfl) rfl (by decide) (x_topn 1 rfl ?_)
          refine x_iadd 55 (ab_dd tk_m_readIf 32 rfl) rfl (x_topn (deep + 1) (nI_add _ _) ?_)
          refine t_callV 58 M_m_readSum 9 1 [_] (ab_dd tk_m_readIf 33 rfl) rfl (by omega) K_m_readSum V_m_readSum.1 V_m_readSum.2 L_m_175 rfl (Nat.le_of_ble_eq_true rfl) (by decide) (Nat.lt_of_lt_of_le (by decide) uD4.1.1) (uD4.1.2.1 0 (by decide)) rfl (D_readSum uD4 _) (fun v1 w1 h1 => ?_)
          obtain ⟨rfl, rfl⟩ := h1
          refine x_aload_n 59 0 (ab_dd tk_m_readIf 34 rfl) rfl rfl rfl ?_
          refine x_bipush 61 12 (ab_dd tk_m_readIf 35 rfl) rfl (by decide) (x_topn 12 rfl ?_)
          refine t_callV 64 M_m_eats 6 1 [_] (ab_dd tk_m_readIf 36 rfl) rfl (by first | decide | omega) K_m_eats V_m_eats.1 V_m_eats.2 L_m_178 rfl (Nat.le_of_ble_eq_true rfl) (by decide) (Nat.lt_of_lt_of_le (by decide) uD4.1.1) (uD4.1.2.1 0 (by decide)) rfl (D_eats uD4 _) (fun v1 w1 h1 => ?_)
          obtain ⟨rfl, rfl⟩ := h1
          refine x_if_ne_f 67 (ab_dd tk_m_readIf 37 rfl) rfl 72 (by decide) (by decide) ?_
          refine x_aload_n 68 0 (ab_dd tk_m_readIf 38 rfl) rfl rfl rfl ?_
          refine x_iconst 69 2 (ab_dd tk_m_readIf 39 rfl) rfl (by decide) (x_topn 2 rfl ?_)
          refine t_callV 72 M_m_fails 0 1 [_] (ab_dd tk_m_readIf 40 rfl) rfl (by first | decide | omega) K_m_fails V_m_fails.1 V_m_fails.2 L_m_155 rfl (Nat.le_of_ble_eq_true rfl) (by decide) (Nat.lt_of_lt_of_le (by decide) uD4.1.1) (uD4.1.2.1 0 (by decide)) rfl (D_fails uD4 _) (fun v1 w1 h1 => ?_)
          obtain ⟨rfl, rfl⟩ := h1
          refine x_aload_n 73 0 (ab_dd tk_m_readIf 41 rfl) rfl rfl rfl ?_
          refine x_sipush 76 3009 (ab_dd tk_m_readIf 42 rfl) rfl (by decide) (x_topn 3009 rfl ?_)
          refine t_callV 79 M_m_codes 0 1 [_] (ab_dd tk_m_readIf 43 rfl) rfl (by first | decide | omega) K_m_codes V_m_codes.1 V_m_codes.2 L_m_166 rfl (Nat.le_of_ble_eq_true rfl) (by decide) (Nat.lt_of_lt_of_le (by decide) uD4.1.1) (uD4.1.2.1 0 (by decide)) rfl (D_codes uD4 _) (fun v1 w1 h1 => ?_)
          obtain ⟨rfl, rfl⟩ := h1
          have hsp : qIf tp n (pS tp n la f) deep p = .inl (e4) := by
            unfold qIf
            rw [if_neg hd1]
            rw [hX2, pB_r]
            try dsimp only
            try unfold qX
            rw [if_pos hk3]
            try dsimp only
            rw [hX4]
            try rfl
          exact x_vret (ab_dd tk_m_readIf 44 rfl) ⟨rfl, _, rfl, ((((rF.rf.tr uF1).tr uF2).tr uF3).tr uF4), by rw [hsp]; exact uD4⟩
        · rw [hX4] at uO4
          have uL4 : rL U4 tp n q4 := uO4.1
          have uC4 := uO4.2
          have hg4 := pS_len _ _ _ _ _ _ uL3.2.2.2.2.2.1 hX4
          obtain ⟨hga4, hgb4, hgc4, hgd4⟩ := hg4
          have hge4 := hgd4 (by decide)
          have uf4 : sI U4 124 = appC N (sI S 124) (c2 ++ c4) := by rw [uC4, (uC3.trans uf2), appC_app]
          refine x_aload_n 38 0 (ab_dd tk_m_readIf 22 rfl) rfl rfl rfl ?_
          refine x_bipush 40 11 (ab_dd tk_m_readIf 23 rfl) rfl (by decide) (x_topn 11 rfl ?_)
          refine t_callV 43 M_m_eats 6 1 [_] (ab_dd tk_m_readIf 24 rfl) rfl (by first | decide | omega) K_m_eats V_m_eats.1 V_m_eats.2 L_m_178 rfl (Nat.le_of_ble_eq_true rfl) (by decide) (Nat.lt_of_lt_of_le (by decide) uL4.1.1) (uL4.1.2.1 0 (by decide)) rfl (L_eats uL4 11 (by decide) (by decide)) (fun v1 w1 h1 => ?_)
          rcases h1 with ⟨hk5, rfl, U5, rfl, uF5, uC5, uL5⟩ | ⟨hk5, rfl, rfl⟩
          · have ht5 := tE_g uL4.2.2.2.2.2.1 (show tK tp n q4 ≠ 24 by omega)
            refine x_if_ne_t 51 (ab_dd tk_m_readIf 25 rfl) (by decide) (by decide) ?_
            refine x_aload_n 52 0 (ab_dd tk_m_readIf 29 rfl) rfl rfl rfl ?_
            refine x_iload_n 53 1 (ab_dd tk_m_readIf 30 rfl) rfl rfl rfl ?_
            refine x_iconst 54 1 (ab_dd tk_m_readIf 31 rfl) rfl (by decide) (x_topn 1 rfl ?_)
            refine x_iadd 55 (ab_dd tk_m_readIf 32 rfl) rfl (x_topn (deep + 1) (nI_add _ _) ?_)
            refine t_callV 58 M_m_readSum (10 * (6 - (deep + 1)) + 11 + 3) 1 [_] (ab_dd tk_m_readIf 33 rfl) rfl (by omega) K_m_readSum V_m_readSum.1 V_m_readSum.2 L_m_175 rfl (Nat.le_of_ble_eq_true rfl) (by decide) (Nat.lt_of_lt_of_le (by decide) uL5.1.1) (uL5.1.2.1 0 (by decide)) rfl (hS _ _ (deep + 1) (tE tp n q4) uL5 (by exact ((((((rF.rf.tr uF1).tr uF2).tr uF3).tr uF4).tr uF5).2 15 (by omega)).trans hr) ((congrFun (uC5.trans uf4) 183).trans (appC_N _ _ _)) (by first | omega | (simp only [List.length_append, List.length_cons, List.length_nil]; omega)) (by omega) (by omega)) (fun v1 w1 h1 => ?_)
            obtain ⟨rfl, U6, rfl, uF6, uO6⟩ := h1
            rcases hX6 : pS tp n la f 2 (deep + 1) (tE tp n q4) with e6 | ⟨q6, c6⟩
            · rw [hX6] at uO6
              have uD6 : rD U6 e6 := uO6
              have hu6 := uD6.2.2.2
              refine x_aload_n 59 0 (ab_dd tk_m_readIf 34 rfl) rfl rfl rfl ?_
              refine x_bipush 61 12 (ab_dd tk_m_readIf 35 rfl) rfl (by decide) (x_topn 12 rfl ?_)
              refine t_callV 64 M_m_eats 6 1 [_] (ab_dd tk_m_readIf 36 rfl) rfl (by first | decide | omega) K_m_eats V_m_eats.1 V_m_eats.2 L_m_178 rfl (Nat.le_of_ble_eq_true rfl) (by decide) (Nat.lt_of_lt_of_le (by decide) uD6.1.1) (uD6.1.2.1 0 (by decide)) rfl (D_eats uD6 _) (fun v1 w1 h1 => ?_)
              obtain ⟨rfl, rfl⟩ := h1
              refine x_if_ne_f 67 (ab_dd tk_m_readIf 37 rfl) rfl 72 (by decide) (by decide) ?_
              refine x_aload_n 68 0 (ab_dd tk_m_readIf 38 rfl) rfl rfl rfl ?_
              refine x_iconst 69 2 (ab_dd tk_m_readIf 39 rfl) rfl (by decide) (x_topn 2 rfl ?_)
              refine t_callV 72 M_m_fails 0 1 [_] (ab_dd tk_m_readIf 40 rfl) rfl (by first | decide | omega) K_m_fails V_m_fails.1 V_m_fails.2 L_m_155 rfl (Nat.le_of_ble_eq_true rfl) (by decide) (Nat.lt_of_lt_of_le (by decide) uD6.1.1) (uD6.1.2.1 0 (by decide)) rfl (D_fails uD6 _) (fun v1 w1 h1 => ?_)
              obtain ⟨rfl, rfl⟩ := h1
              refine x_aload_n 73 0 (ab_dd tk_m_readIf 41 rfl) rfl rfl rfl ?_
              refine x_sipush 76 3009 (ab_dd tk_m_readIf 42 rfl) rfl (by decide) (x_topn 3009 rfl ?_)
              refine t_callV 79 M_m_codes 0 1 [_] (ab_dd tk_m_readIf 43 rfl) rfl (by first | decide | omega) K_m_codes V_m_codes.1 V_m_codes.2 L_m_166 rfl (Nat.le_of_ble_eq_true rfl) (by decide) (Nat.lt_of_lt_of_le (by decide) uD6.1.1) (uD6.1.2.1 0 (by decide)) rfl (D_codes uD6 _) (fun v1 w1 h1 => ?_)
              obtain ⟨rfl, rfl⟩ := h1
              have hsp : qIf tp n (pS tp n la f) deep p = .inl (e6) := by
                unfold qIf
                rw [if_neg hd1]
                rw [hX2, pB_r]
                try dsimp only
                try unfold qX
                rw [if_pos hk3]
                try dsimp only
                rw [hX4, pB_r]
                try dsimp only
                try unfold qX
                rw [if_pos hk5]
                try dsimp only
                rw [hX6]
                try rfl
              exact x_vret (ab_dd tk_m_readIf 44 rfl) ⟨rfl, _, rfl, ((((((rF.rf.tr uF1).tr uF2).tr uF3).tr uF4).tr uF5).tr uF6), by rw [hsp]; exact uD6⟩
            · rw [hX6] at uO6
              have uL6 : rL U6 tp n q6 := uO6.1
              have uC6 := uO6.2
              have hg6 := pS_len _ _ _ _ _ _ uL5.2.2.2.2.2.1 hX6
              obtain ⟨hga6, hgb6, hgc6, hgd6⟩ := hg6
              have hge6 := hgd6 (by decide)
              have uf6 : sI U6 124 = appC N (sI S 124) ((c2 ++ c4) ++ c6) := by rw [uC6, (uC5.trans uf4), appC_app]
              refine x_aload_n 59 0 (ab_dd tk_m_readIf 34 rfl) rfl rfl rfl ?_
              refine x_bipush 61 12 (ab_dd tk_m_readIf 35 rfl) rfl (by decide) (x_topn 12 rfl ?_)
              refine t_callV 64 M_m_eats 6 1 [_] (ab_dd tk_m_readIf 36 rfl) rfl (by first | decide | omega) K_m_eats V_m_eats.1 V_m_eats.2 L_m_178 rfl (Nat.le_of_ble_eq_true rfl) (by decide) (Nat.lt_of_lt_of_le (by decide) uL6.1.1) (uL6.1.2.1 0 (by decide)) rfl (L_eats uL6 12 (by decide) (by decide)) (fun v1 w1 h1 => ?_)
              rcases h1 with ⟨hk7, rfl, U7, rfl, uF7, uC7, uL7⟩ | ⟨hk7, rfl, rfl⟩
              · have ht7 := tE_g uL6.2.2.2.2.2.1 (show tK tp n q6 ≠ 24 by omega)
                refine x_if_ne_t 72 (ab_dd tk_m_readIf 37 rfl) (by decide) (by decide) ?_
                refine x_aload_n 73 0 (ab_dd tk_m_readIf 41 rfl) rfl rfl rfl ?_
                refine x_sipush 76 3009 (ab_dd tk_m_readIf 42 rfl) rfl (by decide) (x_topn 3009 rfl ?_)
                refine t_callV 79 M_m_codes 0 1 [_] (ab_dd tk_m_readIf 43 rfl) rfl (by first | decide | omega) K_m_codes V_m_codes.1 V_m_codes.2 L_m_166 rfl (Nat.le_of_ble_eq_true rfl) (by decide) (Nat.lt_of_lt_of_le (by decide) uL7.1.1) (uL7.1.2.1 0 (by decide)) rfl (L_codes uL7 ((congrFun (uC7.trans uf6) 183).trans (appC_N _ _ _)) (by first | omega | (simp only [List.length_append, List.length_cons, List.length_nil]; omega)) 3009) (fun v1 w1 h1 => ?_)
                obtain ⟨rfl, U8, rfl, uF8, uC8, uL8⟩ := h1
                have uf8 : sI U8 124 = appC N (sI S 124) (((c2 ++ c4) ++ c6) ++ [3009]) := by rw [uC8, (uC7.trans uf6), appC_app]
                have hsp : qIf tp n (pS tp n la f) deep p = .inr ((tE tp n q6), (((c2 ++ c4) ++ c6) ++ [3009])) := by
                  unfold qIf
                  rw [if_neg hd1]
                  rw [hX2, pB_r]
                  try dsimp only
                  try unfold qX
                  rw [if_pos hk3]
                  try dsimp only
                  rw [hX4, pB_r]
                  try dsimp only
                  try unfold qX
                  rw [if_pos hk5]
                  try dsimp only
                  rw [hX6, pB_r]
                  try dsimp only
                  try unfold qX
                  rw [if_pos hk7]
                  try dsimp only
                  try rfl
                exact x_vret (ab_dd tk_m_readIf 44 rfl) ⟨rfl, _, rfl, ((((((((rF.rf.tr uF1).tr uF2).tr uF3).tr uF4).tr uF5).tr uF6).tr uF7).tr uF8), by rw [hsp]; exact ⟨uL8, uf8⟩⟩
              · skip
                refine x_if_ne_f 67 (ab_dd tk_m_readIf 37 rfl) rfl 72 (by decide) (by decide) ?_
                refine x_aload_n 68 0 (ab_dd tk_m_readIf 38 rfl) rfl rfl rfl ?_
                refine x_iconst 69 2 (ab_dd tk_m_readIf 39 rfl) rfl (by decide) (x_topn 2 rfl ?_)
                refine t_callV 72 M_m_fails 0 1 [_] (ab_dd tk_m_readIf 40 rfl) rfl (by first | decide | omega) K_m_fails V_m_fails.1 V_m_fails.2 L_m_155 rfl (Nat.le_of_ble_eq_true rfl) (by decide) (Nat.lt_of_lt_of_le (by decide) uL6.1.1) (uL6.1.2.1 0 (by decide)) rfl (L_fails uL6 2 (by decide) (by decide)) (fun v1 w1 h1 => ?_)
                obtain ⟨rfl, U9, rfl, uF9, uQ9, uD9⟩ := h1
                have hu9 := uD9.2.2.2
                refine x_aload_n 73 0 (ab_dd tk_m_readIf 41 rfl) rfl rfl rfl ?_
                refine x_sipush 76 3009 (ab_dd tk_m_readIf 42 rfl) rfl (by decide) (x_topn 3009 rfl ?_)
                refine t_callV 79 M_m_codes 0 1 [_] (ab_dd tk_m_readIf 43 rfl) rfl (by first | decide | omega) K_m_codes V_m_codes.1 V_m_codes.2 L_m_166 rfl (Nat.le_of_ble_eq_true rfl) (by decide) (Nat.lt_of_lt_of_le (by decide) uD9.1.1) (uD9.1.2.1 0 (by decide)) rfl (D_codes uD9 _) (fun v1 w1 h1 => ?_)
                obtain ⟨rfl, rfl⟩ := h1
                have hsp : qIf tp n (pS tp n la f) deep p = .inl (pE tp n q6 2) := by
                  unfold qIf
                  rw [if_neg hd1]
                  rw [hX2, pB_r]
                  try dsimp only
                  try unfold qX
                  rw [if_pos hk3]
                  try dsimp only
                  rw [hX4, pB_r]
                  try dsimp only
                  try unfold qX
                  rw [if_pos hk5]
                  try dsimp only
                  rw [hX6, pB_r]
                  try dsimp only
                  try unfold qX
                  rw [if_neg hk7]
                  try rfl
                exact x_vret (ab_dd tk_m_readIf 44 rfl) ⟨rfl, _, rfl, (((((((rF.rf.tr uF1).tr uF2).tr uF3).tr uF4).tr uF5).tr uF6).tr uF9), by rw [hsp]; exact uD9⟩
          · skip
            refine x_if_ne_f 46 (ab_dd tk_m_readIf 25 rfl) rfl 51 (by decide) (by decide) ?_
            refine x_aload_n 47 0 (ab_dd tk_m_readIf 26 rfl) rfl rfl rfl ?_
            refine x_iconst 48 2 (ab_dd tk_m_readIf 27 rfl) rfl (by decide) (x_topn 2 rfl ?_)
            refine t_callV 51 M_m_fails 0 1 [_] (ab_dd tk_m_readIf 28 rfl) rfl (by first | decide | omega) K_m_fails V_m_fails.1 V_m_fails.2 L_m_155 rfl (Nat.le_of_ble_eq_true rfl) (by decide) (Nat.lt_of_lt_of_le (by decide) uL4.1.1) (uL4.1.2.1 0 (by decide)) rfl (L_fails uL4 2 (by decide) (by decide)) (fun v1 w1 h1 => ?_)
            obtain ⟨rfl, U10, rfl, uF10, uQ10, uD10⟩ := h1
            have hu10 := uD10.2.2.2
            refine x_aload_n 52 0 (ab_dd tk_m_readIf 29 rfl) rfl rfl rfl ?_
            refine x_iload_n 53 1 (ab_dd tk_m_readIf 30 rfl) rfl rfl rfl ?_
            refine x_iconst 54 1 (ab_dd tk_m_readIf 31 rfl) rfl (by decide) (x_topn 1 rfl ?_)
            refine x_iadd 55 (ab_dd tk_m_readIf 32 rfl) rfl (x_topn (deep + 1) (nI_add _ _) ?_)
            refine t_callV 58 M_m_readSum 9 1 [_] (ab_dd tk_m_readIf 33 rfl) rfl (by omega) K_m_readSum V_m_readSum.1 V_m_readSum.2 L_m_175 rfl (Nat.le_of_ble_eq_true rfl) (by decide) (Nat.lt_of_lt_of_le (by decide) uD10.1.1) (uD10.1.2.1 0 (by decide)) rfl (D_readSum uD10 _) (fun v1 w1 h1 => ?_)
            obtain ⟨rfl, rfl⟩ := h1
            refine x_aload_n 59 0 (ab_dd tk_m_readIf 34 rfl) rfl rfl rfl ?_
            refine x_bipush 61 12 (ab_dd tk_m_readIf 35 rfl) rfl (by decide) (x_topn 12 rfl ?_)
            refine t_callV 64 M_m_eats 6 1 [_] (ab_dd tk_m_readIf 36 rfl) rfl (by first | decide | omega) K_m_eats V_m_eats.1 V_m_eats.2 L_m_178 rfl (Nat.le_of_ble_eq_true rfl) (by decide) (Nat.lt_of_lt_of_le (by decide) uD10.1.1) (uD10.1.2.1 0 (by decide)) rfl (D_eats uD10 _) (fun v1 w1 h1 => ?_)
            obtain ⟨rfl, rfl⟩ := h1
            refine x_if_ne_f 67 (ab_dd tk_m_readIf 37 rfl) rfl 72 (by decide) (by decide) ?_
            refine x_aload_n 68 0 (ab_dd tk_m_readIf 38 rfl) rfl rfl rfl ?_
            refine x_iconst 69 2 (ab_dd tk_m_readIf 39 rfl) rfl (by decide) (x_topn 2 rfl ?_)
            refine t_callV 72 M_m_fails 0 1 [_] (ab_dd tk_m_readIf 40 rfl) rfl (by first | decide | omega) K_m_fails V_m_fails.1 V_m_fails.2 L_m_155 rfl (Nat.le_of_ble_eq_true rfl) (by decide) (Nat.lt_of_lt_of_le (by decide) uD10.1.1) (uD10.1.2.1 0 (by decide)) rfl (D_fails uD10 _) (fun v1 w1 h1 => ?_)
            obtain ⟨rfl, rfl⟩ := h1
            refine x_aload_n 73 0 (ab_dd tk_m_readIf 41 rfl) rfl rfl rfl ?_
            refine x_sipush 76 3009 (ab_dd tk_m_readIf 42 rfl) rfl (by decide) (x_topn 3009 rfl ?_)
            refine t_callV 79 M_m_codes 0 1 [_] (ab_dd tk_m_readIf 43 rfl) rfl (by first | decide | omega) K_m_codes V_m_codes.1 V_m_codes.2 L_m_166 rfl (Nat.le_of_ble_eq_true rfl) (by decide) (Nat.lt_of_lt_of_le (by decide) uD10.1.1) (uD10.1.2.1 0 (by decide)) rfl (D_codes uD10 _) (fun v1 w1 h1 => ?_)
            obtain ⟨rfl, rfl⟩ := h1
            have hsp : qIf tp n (pS tp n la f) deep p = .inl (pE tp n q4 2) := by
              unfold qIf
              rw [if_neg hd1]
              rw [hX2, pB_r]
              try dsimp only
              try unfold qX
              rw [if_pos hk3]
              try dsimp only
              rw [hX4, pB_r]
              try dsimp only
              try unfold qX
              rw [if_neg hk5]
              try rfl
            exact x_vret (ab_dd tk_m_readIf 44 rfl) ⟨rfl, _, rfl, (((((rF.rf.tr uF1).tr uF2).tr uF3).tr uF4).tr uF10), by rw [hsp]; exact uD10⟩
      · skip
        refine x_if_ne_f 25 (ab_dd tk_m_readIf 13 rfl) rfl 30 (by decide) (by decide) ?_
        refine x_aload_n 26 0 (ab_dd tk_m_readIf 14 rfl) rfl rfl rfl ?_
        refine x_iconst 27 2 (ab_dd tk_m_readIf 15 rfl) rfl (by decide) (x_topn 2 rfl ?_)
        refine t_callV 30 M_m_fails 0 1 [_] (ab_dd tk_m_readIf 16 rfl) rfl (by first | decide | omega) K_m_fails V_m_fails.1 V_m_fails.2 L_m_155 rfl (Nat.le_of_ble_eq_true rfl) (by decide) (Nat.lt_of_lt_of_le (by decide) uL2.1.1) (uL2.1.2.1 0 (by decide)) rfl (L_fails uL2 2 (by decide) (by decide)) (fun v1 w1 h1 => ?_)
        obtain ⟨rfl, U11, rfl, uF11, uQ11, uD11⟩ := h1
        have hu11 := uD11.2.2.2
        refine x_aload_n 31 0 (ab_dd tk_m_readIf 17 rfl) rfl rfl rfl ?_
        refine x_iload_n 32 1 (ab_dd tk_m_readIf 18 rfl) rfl rfl rfl ?_
        refine x_iconst 33 1 (ab_dd tk_m_readIf 19 rfl) rfl (by decide) (x_topn 1 rfl ?_)
        refine x_iadd 34 (ab_dd tk_m_readIf 20 rfl) rfl (x_topn (deep + 1) (nI_add _ _) ?_)
        refine t_callV 37 M_m_readSum 9 1 [_] (ab_dd tk_m_readIf 21 rfl) rfl (by omega) K_m_readSum V_m_readSum.1 V_m_readSum.2 L_m_175 rfl (Nat.le_of_ble_eq_true rfl) (by decide) (Nat.lt_of_lt_of_le (by decide) uD11.1.1) (uD11.1.2.1 0 (by decide)) rfl (D_readSum uD11 _) (fun v1 w1 h1 => ?_)
        obtain ⟨rfl, rfl⟩ := h1
        refine x_aload_n 38 0 (ab_dd tk_m_readIf 22 rfl) rfl rfl rfl ?_
        refine x_bipush 40 11 (ab_dd tk_m_readIf 23 rfl) rfl (by decide) (x_topn 11 rfl ?_)
        refine t_callV 43 M_m_eats 6 1 [_] (ab_dd tk_m_readIf 24 rfl) rfl (by first | decide | omega) K_m_eats V_m_eats.1 V_m_eats.2 L_m_178 rfl (Nat.le_of_ble_eq_true rfl) (by decide) (Nat.lt_of_lt_of_le (by decide) uD11.1.1) (uD11.1.2.1 0 (by decide)) rfl (D_eats uD11 _) (fun v1 w1 h1 => ?_)
        obtain ⟨rfl, rfl⟩ := h1
        refine x_if_ne_f 46 (ab_dd tk_m_readIf 25 rfl) rfl 51 (by decide) (by decide) ?_
        refine x_aload_n 47 0 (ab_dd tk_m_readIf 26 rfl) rfl rfl rfl ?_
        refine x_iconst 48 2 (ab_dd tk_m_readIf 27 rfl) rfl (by decide) (x_topn 2 rfl ?_)
        refine t_callV 51 M_m_fails 0 1 [_] (ab_dd tk_m_readIf 28 rfl) rfl (by first | decide | omega) K_m_fails V_m_fails.1 V_m_fails.2 L_m_155 rfl (Nat.le_of_ble_eq_true rfl) (by decide) (Nat.lt_of_lt_of_le (by decide) uD11.1.1) (uD11.1.2.1 0 (by decide)) rfl (D_fails uD11 _) (fun v1 w1 h1 => ?_)
        obtain ⟨rfl, rfl⟩ := h1
        refine x_aload_n 52 0 (ab_dd tk_m_readIf 29 rfl) rfl rfl rfl ?_
        refine x_iload_n 53 1 (ab_dd tk_m_readIf 30 rfl) rfl rfl rfl ?_
        refine x_iconst 54 1 (ab_dd tk_m_readIf 31 rfl) rfl (by decide) (x_topn 1 rfl ?_)
        refine x_iadd 55 (ab_dd tk_m_readIf 32 rfl) rfl (x_topn (deep + 1) (nI_add _ _) ?_)
        refine t_callV 58 M_m_readSum 9 1 [_] (ab_dd tk_m_readIf 33 rfl) rfl (by omega) K_m_readSum V_m_readSum.1 V_m_readSum.2 L_m_175 rfl (Nat.le_of_ble_eq_true rfl) (by decide) (Nat.lt_of_lt_of_le (by decide) uD11.1.1) (uD11.1.2.1 0 (by decide)) rfl (D_readSum uD11 _) (fun v1 w1 h1 => ?_)
        obtain ⟨rfl, rfl⟩ := h1
        refine x_aload_n 59 0 (ab_dd tk_m_readIf 34 rfl) rfl rfl rfl ?_
        refine x_bipush 61 12 (ab_dd tk_m_readIf 35 rfl) rfl (by decide) (x_topn 12 rfl ?_)
        refine t_callV 64 M_m_eats 6 1 [_] (ab_dd tk_m_readIf 36 rfl) rfl (by first | decide | omega) K_m_eats V_m_eats.1 V_m_eats.2 L_m_178 rfl (Nat.le_of_ble_eq_true rfl) (by decide) (Nat.lt_of_lt_of_le (by decide) uD11.1.1) (uD11.1.2.1 0 (by decide)) rfl (D_eats uD11 _) (fun v1 w1 h1 => ?_)
        obtain ⟨rfl, rfl⟩ := h1
        refine x_if_ne_f 67 (ab_dd tk_m_readIf 37 rfl) rfl 72 (by decide) (by decide) ?_
        refine x_aload_n 68 0 (ab_dd tk_m_readIf 38 rfl) rfl rfl rfl ?_
        refine x_iconst 69 2 (ab_dd tk_m_readIf 39 rfl) rfl (by decide) (x_topn 2 rfl ?_)
        refine t_callV 72 M_m_fails 0 1 [_] (ab_dd tk_m_readIf 40 rfl) rfl (by first | decide | omega) K_m_fails V_m_fails.1 V_m_fails.2 L_m_155 rfl (Nat.le_of_ble_eq_true rfl) (by decide) (Nat.lt_of_lt_of_le (by decide) uD11.1.1) (uD11.1.2.1 0 (by decide)) rfl (D_fails uD11 _) (fun v1 w1 h1 => ?_)
        obtain ⟨rfl, rfl⟩ := h1
        refine x_aload_n 73 0 (ab_dd tk_m_readIf 41 rfl) rfl rfl rfl ?_
        refine x_sipush 76 3009 (ab_dd tk_m_readIf 42 rfl) rfl (by decide) (x_topn 3009 rfl ?_)
        refine t_callV 79 M_m_codes 0 1 [_] (ab_dd tk_m_readIf 43 rfl) rfl (by first | decide | omega) K_m_codes V_m_codes.1 V_m_codes.2 L_m_166 rfl (Nat.le_of_ble_eq_true rfl) (by decide) (Nat.lt_of_lt_of_le (by decide) uD11.1.1) (uD11.1.2.1 0 (by decide)) rfl (D_codes uD11 _) (fun v1 w1 h1 => ?_)
        obtain ⟨rfl, rfl⟩ := h1
        have hsp : qIf tp n (pS tp n la f) deep p = .inl (pE tp n q2 2) := by
          unfold qIf
          rw [if_neg hd1]
          rw [hX2, pB_r]
          try dsimp only
          try unfold qX
          rw [if_neg hk3]
          try rfl
        exact x_vret (ab_dd tk_m_readIf 44 rfl) ⟨rfl, _, rfl, (((rF.rf.tr uF1).tr uF2).tr uF11), by rw [hsp]; exact uD11⟩
theorem j_readAtom {G : ab_G} {tp : Nat → Nat} {n la f : Nat} (hla : la < 2) (hS : JM G tp n la M_m_readSum 2 3 f) (hR : JM G tp n la M_m_readTruth 5 6 f) : JM G tp n la M_m_readAtom 0 1 (f + 1) := by
  intro S N deep p hL hr hN hNp hdeep hfu
  have hp := hL.2.2.2.2.2.1
  have hn9 := hL.2.2.2.1
  have hk42 := tK_lt tp n p
  have hr42 := tN_lt (tp := tp) hp
  refine x_enter [some (.ref 120), some (.int (nI deep))] (by decide) (Nat.le_of_ble_eq_true rfl) rfl (fun v w' h => by obtain ⟨rfl, -⟩ := h; trivial) ?_
  refine x_aload_n 1 0 (ab_dd tk_m_readAtom 0 rfl) rfl rfl rfl ?_
  refine x_bipush 3 23 (ab_dd tk_m_readAtom 1 rfl) rfl (by decide) (x_topn 23 rfl ?_)
  refine t_callV 6 M_m_is 0 1 [_] (ab_dd tk_m_readAtom 2 rfl) rfl (by first | decide | omega) K_m_is V_m_is.1 V_m_is.2 L_m_149 rfl (Nat.le_of_ble_eq_true rfl) (by decide) (Nat.lt_of_lt_of_le (by decide) hL.1.1) (hL.1.2.1 0 (by decide)) rfl (L_is hL 23 (by decide)) (fun v1 w1 h1 => ?_)
  obtain ⟨rfl, rfl⟩ := h1
  refine xb_if_eq 9 24 (ab_dd tk_m_readAtom 3 rfl) rfl (by decide) (fun h6 => ?_) (fun h6 => ?_)
  · refine x_aload_n 25 0 (ab_dd tk_m_readAtom 11 rfl) rfl rfl rfl ?_
    refine t_getI 28 (ab_dd tk_m_readAtom 12 rfl) rfl F_m_143 (by decide) (Nat.lt_of_lt_of_le (by decide) hL.1.1) (hL.1.2.1 0 (by decide)) rfl (x_topn 0 hL.2.2.2.2.2.2.2 ?_)
    refine x_if_ne_f 31 (ab_dd tk_m_readAtom 13 rfl) rfl 66 (by decide) ((nI_eq (a := 0) (b := 0) (by omega) (by omega)).mpr (show 0 = 0 by omega)) ?_
    refine x_aload_n 32 0 (ab_dd tk_m_readAtom 14 rfl) rfl rfl rfl ?_
    refine x_aload_n 33 0 (ab_dd tk_m_readAtom 15 rfl) rfl rfl rfl ?_
    refine t_getI 36 (ab_dd tk_m_readAtom 16 rfl) rfl F_m_125 (by decide) (Nat.lt_of_lt_of_le (by decide) hL.1.1) (hL.1.2.1 0 (by decide)) rfl (x_topn (tK tp n p) hL.2.2.2.2.2.2.1.2.2.1 ?_)
    refine t_callV 39 M_m_wordOf 0 1 [_] (ab_dd tk_m_readAtom 17 rfl) rfl (by first | decide | omega) K_m_wordOf V_m_wordOf.1 V_m_wordOf.2 L_m_169 rfl (Nat.le_of_ble_eq_true rfl) (by decide) (Nat.lt_of_lt_of_le (by decide) hL.1.1) (hL.1.2.1 0 (by decide)) rfl (L_wordOf hL.1 la hla (by exact (rF.rf.2 15 (by omega)).trans hr) (tK tp n p) hk42) (fun v1 w1 h1 => ?_)
    obtain ⟨rfl, rfl⟩ := h1
    rcases hw : pW la (tK tp n p) with _ | w0
    · show ab_Ex _ _ _ _ _ (.int (-1) :: _) _ _
      refine x_iconst 40 (-1) (ab_dd tk_m_readAtom 18 rfl) rfl (by decide) ?_
      refine x_icmp_eq_t 66 (ab_dd tk_m_readAtom 19 rfl) (by decide) rfl ?_
      refine x_aload_n 67 0 (ab_dd tk_m_readAtom 31 rfl) rfl rfl rfl ?_
      refine x_bipush 69 35 (ab_dd tk_m_readAtom 32 rfl) rfl (by decide) (x_topn 35 rfl ?_)
      refine t_callV 72 M_m_is 0 1 [_] (ab_dd tk_m_readAtom 33 rfl) rfl (by first | decide | omega) K_m_is V_m_is.1 V_m_is.2 L_m_149 rfl (Nat.le_of_ble_eq_true rfl) (by decide) (Nat.lt_of_lt_of_le (by decide) hL.1.1) (hL.1.2.1 0 (by decide)) rfl (L_is hL 35 (by decide)) (fun v1 w1 h1 => ?_)
      obtain ⟨rfl, rfl⟩ := h1
      refine xb_if_eq 75 108 (ab_dd tk_m_readAtom 34 rfl) rfl (by decide) (fun h72 => ?_) (fun h72 => ?_)
      · refine x_aload_n 109 0 (ab_dd tk_m_readAtom 53 rfl) rfl rfl rfl ?_
        refine x_bipush 111 9 (ab_dd tk_m_readAtom 54 rfl) rfl (by decide) (x_topn 9 rfl ?_)
        refine t_callV 114 M_m_is 0 1 [_] (ab_dd tk_m_readAtom 55 rfl) rfl (by first | decide | omega) K_m_is V_m_is.1 V_m_is.2 L_m_149 rfl (Nat.le_of_ble_eq_true rfl) (by decide) (Nat.lt_of_lt_of_le (by decide) hL.1.1) (hL.1.2.1 0 (by decide)) rfl (L_is hL 9 (by decide)) (fun v1 w1 h1 => ?_)
        obtain ⟨rfl, rfl⟩ := h1
        refine xb_if_eq 117 125 (ab_dd tk_m_readAtom 56 rfl) rfl (by decide) (fun h114 => ?_) (fun h114 => ?_)
        · refine x_aload_n 126 0 (ab_dd tk_m_readAtom 61 rfl) rfl rfl rfl ?_
          refine x_iconst 127 2 (ab_dd tk_m_readAtom 62 rfl) rfl (by decide) (x_topn 2 rfl ?_)
          refine t_callV 130 M_m_fails 0 1 [_] (ab_dd tk_m_readAtom 63 rfl) rfl (by first | decide | omega) K_m_fails V_m_fails.1 V_m_fails.2 L_m_155 rfl (Nat.le_of_ble_eq_true rfl) (by decide) (Nat.lt_of_lt_of_le (by decide) hL.1.1) (hL.1.2.1 0 (by decide)) rfl (L_fails hL 2 (by decide) (by decide)) (fun v1 w1 h1 => ?_)
          obtain ⟨rfl, U2, rfl, uF2, uQ2, uD2⟩ := h1
          have hu2 := uD2.2.2.2
          have hsp : pS tp n la (f + 1) 0 deep p = .inl (pE tp n p 2) := by
            show qAt _ _ _ _ _ _ = _
            unfold qAt
            rw [if_neg h6, hw]
            show (if _ then _ else _) = _
            rw [if_neg h72]
            rw [if_neg h114]
            try rfl
          exact x_vret (ab_dd tk_m_readAtom 64 rfl) ⟨rfl, _, rfl, (rF.rf.tr uF2), by rw [hsp]; exact uD2⟩
        · refine x_aload_n 118 0 (ab_dd tk_m_readAtom 57 rfl) rfl rfl rfl ?_
          refine x_iload_n 119 1 (ab_dd tk_m_readAtom 58 rfl) rfl rfl rfl ?_
          refine t_callV 122 M_m_readIf (10 * (6 - deep) + 11) 1 [_] (ab_dd tk_m_readAtom 59 rfl) rfl (by omega) K_m_readIf V_m_readIf.1 V_m_readIf.2 L_m_181 rfl (Nat.le_of_ble_eq_true rfl) (by decide) (Nat.lt_of_lt_of_le (by decide) hL.1.1) (hL.1.2.1 0 (by decide)) rfl (j_readIf hla hS hR _ _ deep p hL (by exact hr) hN hNp hdeep (by omega) (by omega)) (fun v1 w1 h1 => ?_)
          obtain ⟨rfl, U9, rfl, uF9, uO9⟩ := h1
          refine x_goto 130 (ab_dd tk_m_readAtom 60 rfl) (by decide) ?_
          have hsp : pS tp n la (f + 1) 0 deep p = qIf tp n (pS tp n la f) deep p := by
            show qAt _ _ _ _ _ _ = _
            unfold qAt
            rw [if_neg h6, hw]
            show (if _ then _ else _) = _
            rw [if_neg h72]
            rw [if_pos h114]
          exact x_vret (ab_dd tk_m_readAtom 64 rfl) ⟨rfl, _, rfl, uF9, by rw [hsp]; exact uO9⟩
      · refine x_aload_n 76 0 (ab_dd tk_m_readAtom 35 rfl) rfl rfl rfl ?_
        refine x_iload_n 77 1 (ab_dd tk_m_readAtom 36 rfl) rfl rfl rfl ?_
        refine t_callV 80 M_m_goesIn 6 1 [_] (ab_dd tk_m_readAtom 37 rfl) rfl (by first | decide | omega) K_m_goesIn V_m_goesIn.1 V_m_goesIn.2 L_m_172 rfl (Nat.le_of_ble_eq_true rfl) (by decide) (Nat.lt_of_lt_of_le (by decide) hL.1.1) (hL.1.2.1 0 (by decide)) rfl (L_goesIn hL deep hdeep (by omega) (by omega)) (fun v1 w1 h1 => ?_)
        rcases h1 with ⟨hd3, rfl, U3, rfl, uF3, uD3⟩ | ⟨hd3, rfl, U3, rfl, uF3, uC3, uL3⟩
        · have hu3 := uD3.2.2.2
          refine x_if_ne_f 83 (ab_dd tk_m_readAtom 38 rfl) rfl 84 (by decide) (by decide) ?_
          have hsp : pS tp n la (f + 1) 0 deep p = .inl (pE tp n p 4) := by
            show qAt _ _ _ _ _ _ = _
            unfold qAt
            rw [if_neg h6, hw]
            show (if _ then _ else _) = _
            rw [if_pos h72]
            rw [if_pos hd3]
            try rfl
          exact x_vret (ab_dd tk_m_readAtom 39 rfl) ⟨rfl, _, rfl, (rF.rf.tr uF3), by rw [hsp]; exact uD3⟩
        · have ht3 := tE_g hL.2.2.2.2.2.1 (show tK tp n p ≠ 24 by omega)
          refine x_if_ne_t 84 (ab_dd tk_m_readAtom 38 rfl) (by decide) (by decide) ?_
          refine x_aload_n 85 0 (ab_dd tk_m_readAtom 40 rfl) rfl rfl rfl ?_
          refine x_iload_n 86 1 (ab_dd tk_m_readAtom 41 rfl) rfl rfl rfl ?_
          refine x_iconst 87 1 (ab_dd tk_m_readAtom 42 rfl) rfl (by decide) (x_topn 1 rfl ?_)
          refine x_iadd 88 (ab_dd tk_m_readAtom 43 rfl) rfl (x_topn (deep + 1) (nI_add _ _) ?_)
          refine t_callV 91 M_m_readSum (10 * (6 - (deep + 1)) + 11 + 3) 1 [_] (ab_dd tk_m_readAtom 44 rfl) rfl (by omega) K_m_readSum V_m_readSum.1 V_m_readSum.2 L_m_175 rfl (Nat.le_of_ble_eq_true rfl) (by decide) (Nat.lt_of_lt_of_le (by decide) uL3.1.1) (uL3.1.2.1 0 (by decide)) rfl (hS _ _ (deep + 1) (tE tp n p) uL3 (by exact ((rF.rf.tr uF3).2 15 (by omega)).trans hr) ((congrFun (uC3.trans rfl) 183).trans hN) (by first | omega | (simp only [List.length_append, List.length_cons, List.length_nil]; omega)) (by omega) (by omega)) (fun v1 w1 h1 => ?_)
          obtain ⟨rfl, U4, rfl, uF4, uO4⟩ := h1
          rcases hX4 : pS tp n la f 2 (deep + 1) (tE tp n p) with e4 | ⟨q4, c4⟩
          · rw [hX4] at uO4
            have uD4 : rD U4 e4 := uO4
            have hu4 := uD4.2.2.2
            refine x_aload_n 92 0 (ab_dd tk_m_readAtom 45 rfl) rfl rfl rfl ?_
            refine x_bipush 94 36 (ab_dd tk_m_readAtom 46 rfl) rfl (by decide) (x_topn 36 rfl ?_)
            refine t_callV 97 M_m_eats 6 1 [_] (ab_dd tk_m_readAtom 47 rfl) rfl (by first | decide | omega) K_m_eats V_m_eats.1 V_m_eats.2 L_m_178 rfl (Nat.le_of_ble_eq_true rfl) (by decide) (Nat.lt_of_lt_of_le (by decide) uD4.1.1) (uD4.1.2.1 0 (by decide)) rfl (D_eats uD4 _) (fun v1 w1 h1 => ?_)
            obtain ⟨rfl, rfl⟩ := h1
            refine x_if_ne_f 100 (ab_dd tk_m_readAtom 48 rfl) rfl 130 (by decide) (by decide) ?_
            refine x_aload_n 101 0 (ab_dd tk_m_readAtom 49 rfl) rfl rfl rfl ?_
            refine x_iconst 102 2 (ab_dd tk_m_readAtom 50 rfl) rfl (by decide) (x_topn 2 rfl ?_)
            refine t_callV 105 M_m_fails 0 1 [_] (ab_dd tk_m_readAtom 51 rfl) rfl (by first | decide | omega) K_m_fails V_m_fails.1 V_m_fails.2 L_m_155 rfl (Nat.le_of_ble_eq_true rfl) (by decide) (Nat.lt_of_lt_of_le (by decide) uD4.1.1) (uD4.1.2.1 0 (by decide)) rfl (D_fails uD4 _) (fun v1 w1 h1 => ?_)
            obtain ⟨rfl, rfl⟩ := h1
            refine x_goto 130 (ab_dd tk_m_readAtom 52 rfl) (by decide) ?_
            have hsp : pS tp n la (f + 1) 0 deep p = .inl (e4) := by
              show qAt _ _ _ _ _ _ = _
              unfold qAt
              rw [if_neg h6, hw]
              show (if _ then _ else _) = _
              rw [if_pos h72]
              rw [if_neg hd3]
              rw [hX4]
              try rfl
            exact x_vret (ab_dd tk_m_readAtom 64 rfl) ⟨rfl, _, rfl, ((rF.rf.tr uF3).tr uF4), by rw [hsp]; exact uD4⟩
          · rw [hX4] at uO4
            have uL4 : rL U4 tp n q4 := uO4.1
            have uC4 := uO4.2
            have hg4 := pS_len _ _ _ _ _ _ uL3.2.2.2.2.2.1 hX4
            obtain ⟨hga4, hgb4, hgc4, hgd4⟩ := hg4
            have hge4 := hgd4 (by decide)
            have uf4 : sI U4 124 = appC N (sI S 124) c4 := uC4.trans (congrArg (fun z => appC N z c4) (uC3.trans rfl))
            refine x_aload_n 92 0 (ab_dd tk_m_readAtom 45 rfl) rfl rfl rfl ?_
            refine x_bipush 94 36 (ab_dd tk_m_readAtom 46 rfl) rfl (by decide) (x_topn 36 rfl ?_)
            refine t_callV 97 M_m_eats 6 1 [_] (ab_dd tk_m_readAtom 47 rfl) rfl (by first | decide | omega) K_m_eats V_m_eats.1 V_m_eats.2 L_m_178 rfl (Nat.le_of_ble_eq_true rfl) (by decide) (Nat.lt_of_lt_of_le (by decide) uL4.1.1) (uL4.1.2.1 0 (by decide)) rfl (L_eats uL4 36 (by decide) (by decide)) (fun v1 w1 h1 => ?_)
            rcases h1 with ⟨hk5, rfl, U5, rfl, uF5, uC5, uL5⟩ | ⟨hk5, rfl, rfl⟩
            · have ht5 := tE_g uL4.2.2.2.2.2.1 (show tK tp n q4 ≠ 24 by omega)
              refine x_if_ne_t 130 (ab_dd tk_m_readAtom 48 rfl) (by decide) (by decide) ?_
              have hsp : pS tp n la (f + 1) 0 deep p = .inr ((tE tp n q4), c4) := by
                show qAt _ _ _ _ _ _ = _
                unfold qAt
                rw [if_neg h6, hw]
                show (if _ then _ else _) = _
                rw [if_pos h72]
                rw [if_neg hd3]
                rw [hX4, pB_r]
                try dsimp only
                try unfold qX
                rw [if_pos hk5]
                try dsimp only
                try rfl
              exact x_vret (ab_dd tk_m_readAtom 64 rfl) ⟨rfl, _, rfl, (((rF.rf.tr uF3).tr uF4).tr uF5), by rw [hsp]; exact ⟨uL5, (uC5.trans uf4)⟩⟩
            · skip
              refine x_if_ne_f 100 (ab_dd tk_m_readAtom 48 rfl) rfl 130 (by decide) (by decide) ?_
              refine x_aload_n 101 0 (ab_dd tk_m_readAtom 49 rfl) rfl rfl rfl ?_
              refine x_iconst 102 2 (ab_dd tk_m_readAtom 50 rfl) rfl (by decide) (x_topn 2 rfl ?_)
              refine t_callV 105 M_m_fails 0 1 [_] (ab_dd tk_m_readAtom 51 rfl) rfl (by first | decide | omega) K_m_fails V_m_fails.1 V_m_fails.2 L_m_155 rfl (Nat.le_of_ble_eq_true rfl) (by decide) (Nat.lt_of_lt_of_le (by decide) uL4.1.1) (uL4.1.2.1 0 (by decide)) rfl (L_fails uL4 2 (by decide) (by decide)) (fun v1 w1 h1 => ?_)
              obtain ⟨rfl, U6, rfl, uF6, uQ6, uD6⟩ := h1
              have hu6 := uD6.2.2.2
              refine x_goto 130 (ab_dd tk_m_readAtom 52 rfl) (by decide) ?_
              have hsp : pS tp n la (f + 1) 0 deep p = .inl (pE tp n q4 2) := by
                show qAt _ _ _ _ _ _ = _
                unfold qAt
                rw [if_neg h6, hw]
                show (if _ then _ else _) = _
                rw [if_pos h72]
                rw [if_neg hd3]
                rw [hX4, pB_r]
                try dsimp only
                try unfold qX
                rw [if_neg hk5]
                try rfl
              exact x_vret (ab_dd tk_m_readAtom 64 rfl) ⟨rfl, _, rfl, (((rF.rf.tr uF3).tr uF4).tr uF6), by rw [hsp]; exact uD6⟩
    · show ab_Ex _ _ _ _ _ (.int (nI w0) :: _) _ _
      have hw24 := pW_24 hw
      have hw9 := pW_lt hw
      refine x_iconst 40 (-1) (ab_dd tk_m_readAtom 18 rfl) rfl (by decide) ?_
      refine x_icmp_eq_f 43 (ab_dd tk_m_readAtom 19 rfl) rfl 66 (by decide) (nI_m1 (by omega)) ?_
      have hg := tE_g (tp := tp) hp hw24.1
      refine x_aload_n 44 0 (ab_dd tk_m_readAtom 20 rfl) rfl rfl rfl ?_
      refine x_sipush 47 1000 (ab_dd tk_m_readAtom 21 rfl) rfl (by decide) (x_topn 1000 rfl ?_)
      refine x_aload_n 48 0 (ab_dd tk_m_readAtom 22 rfl) rfl rfl rfl ?_
      refine x_aload_n 49 0 (ab_dd tk_m_readAtom 23 rfl) rfl rfl rfl ?_
      refine t_getI 52 (ab_dd tk_m_readAtom 24 rfl) rfl F_m_125 (by decide) (Nat.lt_of_lt_of_le (by decide) hL.1.1) (hL.1.2.1 0 (by decide)) rfl (x_topn (tK tp n p) hL.2.2.2.2.2.2.1.2.2.1 ?_)
      refine t_callV 55 M_m_wordOf 0 1 [_] (ab_dd tk_m_readAtom 25 rfl) rfl (by first | decide | omega) K_m_wordOf V_m_wordOf.1 V_m_wordOf.2 L_m_169 rfl (Nat.le_of_ble_eq_true rfl) (by decide) (Nat.lt_of_lt_of_le (by decide) hL.1.1) (hL.1.2.1 0 (by decide)) rfl (L_wordOf hL.1 la hla (by exact (rF.rf.2 15 (by omega)).trans hr) (tK tp n p) hk42) (fun v1 w1 h1 => ?_)
      obtain ⟨rfl, rfl⟩ := h1
      rw [hw]
      show ab_Ex _ _ _ _ _ (.int (nI w0) :: _) _ _
      refine x_iadd 56 (ab_dd tk_m_readAtom 26 rfl) rfl (x_topn (1000 + w0) (nI_add _ _) ?_)
      refine t_callV 59 M_m_codes 0 1 [_] (ab_dd tk_m_readAtom 27 rfl) rfl (by first | decide | omega) K_m_codes V_m_codes.1 V_m_codes.2 L_m_166 rfl (Nat.le_of_ble_eq_true rfl) (by decide) (Nat.lt_of_lt_of_le (by decide) hL.1.1) (hL.1.2.1 0 (by decide)) rfl (L_codes hL ((congrFun rfl 183).trans hN) (by first | omega | (simp only [List.length_append, List.length_cons, List.length_nil]; omega)) (1000 + w0)) (fun v1 w1 h1 => ?_)
      obtain ⟨rfl, U8, rfl, uF8, uC8, uL8⟩ := h1
      have uf8 : sI U8 124 = appC N (sI S 124) [(1000 + w0)] := uC8.trans (congrArg (fun z => appC N z [(1000 + w0)]) rfl)
      refine x_aload_n 60 0 (ab_dd tk_m_readAtom 28 rfl) rfl rfl rfl ?_
      refine t_callV 63 M_m_next 5 0 [] (ab_dd tk_m_readAtom 29 rfl) rfl (by first | decide | omega) K_m_next V_m_next.1 V_m_next.2 L_m_152 rfl (Nat.le_of_ble_eq_true rfl) (by decide) (Nat.lt_of_lt_of_le (by decide) uL8.1.1) (uL8.1.2.1 0 (by decide)) rfl (L_next uL8 (by omega)) (fun v1 w1 h1 => ?_)
      obtain ⟨rfl, U9, rfl, uF9, uC9, uL9⟩ := h1
      have ht9 := tE_g uL8.2.2.2.2.2.1 (show tK tp n p ≠ 24 by omega)
      refine x_goto 130 (ab_dd tk_m_readAtom 30 rfl) (by decide) ?_
      have hsp : pS tp n la (f + 1) 0 deep p = .inr ((tE tp n p), [(1000 + w0)]) := by
        show qAt _ _ _ _ _ _ = _
        unfold qAt
        rw [if_neg h6, hw]
        try rfl
      exact x_vret (ab_dd tk_m_readAtom 64 rfl) ⟨rfl, _, rfl, ((rF.rf.tr uF8).tr uF9), by rw [hsp]; exact ⟨uL9, (uC9.trans uf8)⟩⟩
  · have hg := tE_g (tp := tp) hp (show tK tp n p ≠ 24 by omega)
    refine x_aload_n 10 0 (ab_dd tk_m_readAtom 4 rfl) rfl rfl rfl ?_
    refine x_aload_n 11 0 (ab_dd tk_m_readAtom 5 rfl) rfl rfl rfl ?_
    refine t_getI 14 (ab_dd tk_m_readAtom 6 rfl) rfl F_m_138 (by decide) (Nat.lt_of_lt_of_le (by decide) hL.1.1) (hL.1.2.1 0 (by decide)) rfl (x_topn (tN tp n p) (hL.2.2.2.2.2.2.1.2.2.2 h6) ?_)
    refine t_callV 17 M_m_codes 0 1 [_] (ab_dd tk_m_readAtom 7 rfl) rfl (by first | decide | omega) K_m_codes V_m_codes.1 V_m_codes.2 L_m_166 rfl (Nat.le_of_ble_eq_true rfl) (by decide) (Nat.lt_of_lt_of_le (by decide) hL.1.1) (hL.1.2.1 0 (by decide)) rfl (L_codes hL ((congrFun rfl 183).trans hN) (by first | omega | (simp only [List.length_append, List.length_cons, List.length_nil]; omega)) (tN tp n p)) (fun v1 w1 h1 => ?_)
    obtain ⟨rfl, U10, rfl, uF10, uC10, uL10⟩ := h1
    have uf10 : sI U10 124 = appC N (sI S 124) [(tN tp n p)] := uC10.trans (congrArg (fun z => appC N z [(tN tp n p)]) rfl)
    refine x_aload_n 18 0 (ab_dd tk_m_readAtom 8 rfl) rfl rfl rfl ?_
    refine t_callV 21 M_m_next 5 0 [] (ab_dd tk_m_readAtom 9 rfl) rfl (by first | decide | omega) K_m_next V_m_next.1 V_m_next.2 L_m_152 rfl (Nat.le_of_ble_eq_true rfl) (by decide) (Nat.lt_of_lt_of_le (by decide) uL10.1.1) (uL10.1.2.1 0 (by decide)) rfl (L_next uL10 (by omega)) (fun v1 w1 h1 => ?_)
    obtain ⟨rfl, U11, rfl, uF11, uC11, uL11⟩ := h1
    have ht11 := tE_g uL10.2.2.2.2.2.1 (show tK tp n p ≠ 24 by omega)
    refine x_goto 130 (ab_dd tk_m_readAtom 10 rfl) (by decide) ?_
    have hsp : pS tp n la (f + 1) 0 deep p = .inr ((tE tp n p), [(tN tp n p)]) := by
      show qAt _ _ _ _ _ _ = _
      unfold qAt
      rw [if_pos h6]
      try rfl
    exact x_vret (ab_dd tk_m_readAtom 64 rfl) ⟨rfl, _, rfl, ((rF.rf.tr uF10).tr uF11), by rw [hsp]; exact ⟨uL11, (uC11.trans uf10)⟩⟩
theorem j_readUnit {G : ab_G} {tp : Nat → Nat} {n la f : Nat} (hla : la < 2) (hS : JM G tp n la M_m_readSum 2 3 f) (hU : JM G tp n la M_m_readUnit 3 4 f) (hR : JM G tp n la M_m_readTruth 5 6 f) : JM G tp n la M_m_readUnit 3 4 (f + 1) := by
  intro S N deep p hL hr hN hNp hdeep hfu
  have hp := hL.2.2.2.2.2.1
  have hn9 := hL.2.2.2.1
  have hk42 := tK_lt tp n p
  have hr42 := tN_lt (tp := tp) hp
  refine x_enter [some (.ref 120), some (.int (nI deep)), none] (by decide) (Nat.le_of_ble_eq_true rfl) rfl (fun v w' h => by obtain ⟨rfl, -⟩ := h; trivial) ?_
  refine x_aload_n 1 0 (ab_dd tk_m_readUnit 0 rfl) rfl rfl rfl ?_
  refine x_bipush 3 20 (ab_dd tk_m_readUnit 1 rfl) rfl (by decide) (x_topn 20 rfl ?_)
  refine t_callV 6 M_m_is 0 1 [_] (ab_dd tk_m_readUnit 2 rfl) rfl (by first | decide | omega) K_m_is V_m_is.1 V_m_is.2 L_m_149 rfl (Nat.le_of_ble_eq_true rfl) (by decide) (Nat.lt_of_lt_of_le (by decide) hL.1.1) (hL.1.2.1 0 (by decide)) rfl (L_is hL 20 (by decide)) (fun v1 w1 h1 => ?_)
  obtain ⟨rfl, rfl⟩ := h1
  refine xb_if_eq 9 33 (ab_dd tk_m_readUnit 3 rfl) rfl (by decide) (fun h6 => ?_) (fun h6 => ?_)
  · refine x_aload_n 34 0 (ab_dd tk_m_readUnit 18 rfl) rfl rfl rfl ?_
    refine x_bipush 36 37 (ab_dd tk_m_readUnit 19 rfl) rfl (by decide) (x_topn 37 rfl ?_)
    refine t_callV 39 M_m_is 0 1 [_] (ab_dd tk_m_readUnit 20 rfl) rfl (by first | decide | omega) K_m_is V_m_is.1 V_m_is.2 L_m_149 rfl (Nat.le_of_ble_eq_true rfl) (by decide) (Nat.lt_of_lt_of_le (by decide) hL.1.1) (hL.1.2.1 0 (by decide)) rfl (L_is hL 37 (by decide)) (fun v1 w1 h1 => ?_)
    obtain ⟨rfl, rfl⟩ := h1
    refine xb_if_eq 42 73 (ab_dd tk_m_readUnit 21 rfl) rfl (by decide) (fun h39 => ?_) (fun h39 => ?_)
    · refine x_aload_n 74 0 (ab_dd tk_m_readUnit 40 rfl) rfl rfl rfl ?_
      refine x_iload_n 75 1 (ab_dd tk_m_readUnit 41 rfl) rfl rfl rfl ?_
      refine t_callV 78 M_m_readSum (10 * (6 - deep) + 11 + 3) 1 [_] (ab_dd tk_m_readUnit 42 rfl) rfl (by omega) K_m_readSum V_m_readSum.1 V_m_readSum.2 L_m_175 rfl (Nat.le_of_ble_eq_true rfl) (by decide) (Nat.lt_of_lt_of_le (by decide) hL.1.1) (hL.1.2.1 0 (by decide)) rfl (hS _ _ deep p hL (by exact (rF.rf.2 15 (by omega)).trans hr) ((congrFun rfl 183).trans hN) (by first | omega | (simp only [List.length_append, List.length_cons, List.length_nil]; omega)) (by omega) (by omega)) (fun v1 w1 h1 => ?_)
      obtain ⟨rfl, U1, rfl, uF1, uO1⟩ := h1
      rcases hX1 : pS tp n la f 2 deep p with e1 | ⟨q1, c1⟩
      · rw [hX1] at uO1
        have uD1 : rD U1 e1 := uO1
        have hu1 := uD1.2.2.2
        refine x_aload_n 79 0 (ab_dd tk_m_readUnit 43 rfl) rfl rfl rfl ?_
        refine x_bipush 81 39 (ab_dd tk_m_readUnit 44 rfl) rfl (by decide) (x_topn 39 rfl ?_)
        refine t_callV 84 M_m_is 0 1 [_] (ab_dd tk_m_readUnit 45 rfl) rfl (by first | decide | omega) K_m_is V_m_is.1 V_m_is.2 L_m_149 rfl (Nat.le_of_ble_eq_true rfl) (by decide) (Nat.lt_of_lt_of_le (by decide) uD1.1.1) (uD1.1.2.1 0 (by decide)) rfl (D_is uD1 _) (fun v1 w1 h1 => ?_)
        obtain ⟨rfl, rfl⟩ := h1
        refine x_if_eq_t 93 (ab_dd tk_m_readUnit 46 rfl) (by decide) (by decide) ?_
        refine x_aload_n 94 0 (ab_dd tk_m_readUnit 49 rfl) rfl rfl rfl ?_
        refine x_bipush 96 40 (ab_dd tk_m_readUnit 50 rfl) rfl (by decide) (x_topn 40 rfl ?_)
        refine t_callV 99 M_m_is 0 1 [_] (ab_dd tk_m_readUnit 51 rfl) rfl (by first | decide | omega) K_m_is V_m_is.1 V_m_is.2 L_m_149 rfl (Nat.le_of_ble_eq_true rfl) (by decide) (Nat.lt_of_lt_of_le (by decide) uD1.1.1) (uD1.1.2.1 0 (by decide)) rfl (D_is uD1 _) (fun v1 w1 h1 => ?_)
        obtain ⟨rfl, rfl⟩ := h1
        refine x_if_eq_t 108 (ab_dd tk_m_readUnit 52 rfl) (by decide) (by decide) ?_
        refine x_sipush 111 3005 (ab_dd tk_m_readUnit 55 rfl) rfl (by decide) (x_topn 3005 rfl ?_)
        refine x_istore_n 112 [some (.ref 120), some (.int (nI deep)), some (.int (nI 3005))] 2 (ab_dd tk_m_readUnit 56 rfl) rfl rfl (by decide) rfl ?_
        refine x_aload_n 113 0 (ab_dd tk_m_readUnit 57 rfl) rfl rfl rfl ?_
        refine x_bipush 115 39 (ab_dd tk_m_readUnit 58 rfl) rfl (by decide) (x_topn 39 rfl ?_)
        refine t_callV 118 M_m_is 0 1 [_] (ab_dd tk_m_readUnit 59 rfl) rfl (by first | decide | omega) K_m_is V_m_is.1 V_m_is.2 L_m_149 rfl (Nat.le_of_ble_eq_true rfl) (by decide) (Nat.lt_of_lt_of_le (by decide) uD1.1.1) (uD1.1.2.1 0 (by decide)) rfl (D_is uD1 _) (fun v1 w1 h1 => ?_)
        obtain ⟨rfl, rfl⟩ := h1
        refine x_if_ne_f 121 (ab_dd tk_m_readUnit 60 rfl) rfl 139 (by decide) (by decide) ?_
        refine x_aload_n 122 0 (ab_dd tk_m_readUnit 61 rfl) rfl rfl rfl ?_
        refine x_bipush 124 40 (ab_dd tk_m_readUnit 62 rfl) rfl (by decide) (x_topn 40 rfl ?_)
        refine t_callV 127 M_m_is 0 1 [_] (ab_dd tk_m_readUnit 63 rfl) rfl (by first | decide | omega) K_m_is V_m_is.1 V_m_is.2 L_m_149 rfl (Nat.le_of_ble_eq_true rfl) (by decide) (Nat.lt_of_lt_of_le (by decide) uD1.1.1) (uD1.1.2.1 0 (by decide)) rfl (D_is uD1 _) (fun v1 w1 h1 => ?_)
        obtain ⟨rfl, rfl⟩ := h1
        refine x_if_ne_f 130 (ab_dd tk_m_readUnit 64 rfl) rfl 139 (by decide) (by decide) ?_
        refine x_aload_n 131 0 (ab_dd tk_m_readUnit 65 rfl) rfl rfl rfl ?_
        refine x_bipush 133 41 (ab_dd tk_m_readUnit 66 rfl) rfl (by decide) (x_topn 41 rfl ?_)
        refine t_callV 136 M_m_is 0 1 [_] (ab_dd tk_m_readUnit 67 rfl) rfl (by first | decide | omega) K_m_is V_m_is.1 V_m_is.2 L_m_149 rfl (Nat.le_of_ble_eq_true rfl) (by decide) (Nat.lt_of_lt_of_le (by decide) uD1.1.1) (uD1.1.2.1 0 (by decide)) rfl (D_is uD1 _) (fun v1 w1 h1 => ?_)
        obtain ⟨rfl, rfl⟩ := h1
        refine x_if_eq_t 146 (ab_dd tk_m_readUnit 68 rfl) (by decide) (by decide) ?_
        refine x_aload_n 147 0 (ab_dd tk_m_readUnit 72 rfl) rfl rfl rfl ?_
        refine x_iconst 148 2 (ab_dd tk_m_readUnit 73 rfl) rfl (by decide) (x_topn 2 rfl ?_)
        refine t_callV 151 M_m_fails 0 1 [_] (ab_dd tk_m_readUnit 74 rfl) rfl (by first | decide | omega) K_m_fails V_m_fails.1 V_m_fails.2 L_m_155 rfl (Nat.le_of_ble_eq_true rfl) (by decide) (Nat.lt_of_lt_of_le (by decide) uD1.1.1) (uD1.1.2.1 0 (by decide)) rfl (D_fails uD1 _) (fun v1 w1 h1 => ?_)
        obtain ⟨rfl, rfl⟩ := h1
        refine x_aload_n 152 0 (ab_dd tk_m_readUnit 75 rfl) rfl rfl rfl ?_
        refine x_iload_n 153 1 (ab_dd tk_m_readUnit 76 rfl) rfl rfl rfl ?_
        refine t_callV 156 M_m_readSum 9 1 [_] (ab_dd tk_m_readUnit 77 rfl) rfl (by omega) K_m_readSum V_m_readSum.1 V_m_readSum.2 L_m_175 rfl (Nat.le_of_ble_eq_true rfl) (by decide) (Nat.lt_of_lt_of_le (by decide) uD1.1.1) (uD1.1.2.1 0 (by decide)) rfl (D_readSum uD1 _) (fun v1 w1 h1 => ?_)
        obtain ⟨rfl, rfl⟩ := h1
        refine x_aload_n 157 0 (ab_dd tk_m_readUnit 78 rfl) rfl rfl rfl ?_
        refine x_iload_n 158 2 (ab_dd tk_m_readUnit 79 rfl) rfl rfl rfl ?_
        refine t_callV 161 M_m_codes 0 1 [_] (ab_dd tk_m_readUnit 80 rfl) rfl (by first | decide | omega) K_m_codes V_m_codes.1 V_m_codes.2 L_m_166 rfl (Nat.le_of_ble_eq_true rfl) (by decide) (Nat.lt_of_lt_of_le (by decide) uD1.1.1) (uD1.1.2.1 0 (by decide)) rfl (D_codes uD1 _) (fun v1 w1 h1 => ?_)
        obtain ⟨rfl, rfl⟩ := h1
        have hsp : pS tp n la (f + 1) 3 deep p = .inl (e1) := by
          show qUn _ _ _ _ _ = _
          unfold qUn
          rw [if_neg h6]
          rw [if_neg h39]
          rw [hX1]
          try rfl
        exact x_vret (ab_dd tk_m_readUnit 81 rfl) ⟨rfl, _, rfl, (rF.rf.tr uF1), by rw [hsp]; exact uD1⟩
      · rw [hX1] at uO1
        have uL1 : rL U1 tp n q1 := uO1.1
        have uC1 := uO1.2
        have hg1 := pS_len _ _ _ _ _ _ hL.2.2.2.2.2.1 hX1
        obtain ⟨hga1, hgb1, hgc1, hgd1⟩ := hg1
        have hge1 := hgd1 (by decide)
        have uf1 : sI U1 124 = appC N (sI S 124) c1 := uC1.trans (congrArg (fun z => appC N z c1) rfl)
        refine x_aload_n 79 0 (ab_dd tk_m_readUnit 43 rfl) rfl rfl rfl ?_
        refine x_bipush 81 39 (ab_dd tk_m_readUnit 44 rfl) rfl (by decide) (x_topn 39 rfl ?_)
        refine t_callV 84 M_m_is 0 1 [_] (ab_dd tk_m_readUnit 45 rfl) rfl (by first | decide | omega) K_m_is V_m_is.1 V_m_is.2 L_m_149 rfl (Nat.le_of_ble_eq_true rfl) (by decide) (Nat.lt_of_lt_of_le (by decide) uL1.1.1) (uL1.1.2.1 0 (by decide)) rfl (L_is uL1 39 (by decide)) (fun v1 w1 h1 => ?_)
        obtain ⟨rfl, rfl⟩ := h1
        refine xb_if_eq 87 93 (ab_dd tk_m_readUnit 46 rfl) rfl (by decide) (fun h84 => ?_) (fun h84 => ?_)
        · refine x_aload_n 94 0 (ab_dd tk_m_readUnit 49 rfl) rfl rfl rfl ?_
          refine x_bipush 96 40 (ab_dd tk_m_readUnit 50 rfl) rfl (by decide) (x_topn 40 rfl ?_)
          refine t_callV 99 M_m_is 0 1 [_] (ab_dd tk_m_readUnit 51 rfl) rfl (by first | decide | omega) K_m_is V_m_is.1 V_m_is.2 L_m_149 rfl (Nat.le_of_ble_eq_true rfl) (by decide) (Nat.lt_of_lt_of_le (by decide) uL1.1.1) (uL1.1.2.1 0 (by decide)) rfl (L_is uL1 40 (by decide)) (fun v1 w1 h1 => ?_)
          obtain ⟨rfl, rfl⟩ := h1
          refine xb_if_eq 102 108 (ab_dd tk_m_readUnit 52 rfl) rfl (by decide) (fun h99 => ?_) (fun h99 => ?_)
          · refine x_sipush 111 3005 (ab_dd tk_m_readUnit 55 rfl) rfl (by decide) (x_topn 3005 rfl ?_)
            refine x_istore_n 112 [some (.ref 120), some (.int (nI deep)), some (.int (nI 3005))] 2 (ab_dd tk_m_readUnit 56 rfl) rfl rfl (by decide) rfl ?_
            refine x_aload_n 113 0 (ab_dd tk_m_readUnit 57 rfl) rfl rfl rfl ?_
            refine x_bipush 115 39 (ab_dd tk_m_readUnit 58 rfl) rfl (by decide) (x_topn 39 rfl ?_)
            refine t_callV 118 M_m_is 0 1 [_] (ab_dd tk_m_readUnit 59 rfl) rfl (by first | decide | omega) K_m_is V_m_is.1 V_m_is.2 L_m_149 rfl (Nat.le_of_ble_eq_true rfl) (by decide) (Nat.lt_of_lt_of_le (by decide) uL1.1.1) (uL1.1.2.1 0 (by decide)) rfl (L_is uL1 39 (by decide)) (fun v1 w1 h1 => ?_)
            obtain ⟨rfl, rfl⟩ := h1
            refine x_if_ne_f 121 (ab_dd tk_m_readUnit 60 rfl) rfl 139 (by decide) (if_neg h84) ?_
            refine x_aload_n 122 0 (ab_dd tk_m_readUnit 61 rfl) rfl rfl rfl ?_
            refine x_bipush 124 40 (ab_dd tk_m_readUnit 62 rfl) rfl (by decide) (x_topn 40 rfl ?_)
            refine t_callV 127 M_m_is 0 1 [_] (ab_dd tk_m_readUnit 63 rfl) rfl (by first | decide | omega) K_m_is V_m_is.1 V_m_is.2 L_m_149 rfl (Nat.le_of_ble_eq_true rfl) (by decide) (Nat.lt_of_lt_of_le (by decide) uL1.1.1) (uL1.1.2.1 0 (by decide)) rfl (L_is uL1 40 (by decide)) (fun v1 w1 h1 => ?_)
            obtain ⟨rfl, rfl⟩ := h1
            refine x_if_ne_f 130 (ab_dd tk_m_readUnit 64 rfl) rfl 139 (by decide) (if_neg h99) ?_
            refine x_aload_n 131 0 (ab_dd tk_m_readUnit 65 rfl) rfl rfl rfl ?_
            refine x_bipush 133 41 (ab_dd tk_m_readUnit 66 rfl) rfl (by decide) (x_topn 41 rfl ?_)
            refine t_callV 136 M_m_is 0 1 [_] (ab_dd tk_m_readUnit 67 rfl) rfl (by first | decide | omega) K_m_is V_m_is.1 V_m_is.2 L_m_149 rfl (Nat.le_of_ble_eq_true rfl) (by decide) (Nat.lt_of_lt_of_le (by decide) uL1.1.1) (uL1.1.2.1 0 (by decide)) rfl (L_is uL1 41 (by decide)) (fun v1 w1 h1 => ?_)
            obtain ⟨rfl, rfl⟩ := h1
            refine xb_if_eq 139 146 (ab_dd tk_m_readUnit 68 rfl) rfl (by decide) (fun h136 => ?_) (fun h136 => ?_)
            · refine x_aload_n 147 0 (ab_dd tk_m_readUnit 72 rfl) rfl rfl rfl ?_
              refine x_iconst 148 2 (ab_dd tk_m_readUnit 73 rfl) rfl (by decide) (x_topn 2 rfl ?_)
              refine t_callV 151 M_m_fails 0 1 [_] (ab_dd tk_m_readUnit 74 rfl) rfl (by first | decide | omega) K_m_fails V_m_fails.1 V_m_fails.2 L_m_155 rfl (Nat.le_of_ble_eq_true rfl) (by decide) (Nat.lt_of_lt_of_le (by decide) uL1.1.1) (uL1.1.2.1 0 (by decide)) rfl (L_fails uL1 2 (by decide) (by decide)) (fun v1 w1 h1 => ?_)
              obtain ⟨rfl, U2, rfl, uF2, uQ2, uD2⟩ := h1
              have hu2 := uD2.2.2.2
              refine x_aload_n 152 0 (ab_dd tk_m_readUnit 75 rfl) rfl rfl rfl ?_
              refine x_iload_n 153 1 (ab_dd tk_m_readUnit 76 rfl) rfl rfl rfl ?_
              refine t_callV 156 M_m_readSum 9 1 [_] (ab_dd tk_m_readUnit 77 rfl) rfl (by omega) K_m_readSum V_m_readSum.1 V_m_readSum.2 L_m_175 rfl (Nat.le_of_ble_eq_true rfl) (by decide) (Nat.lt_of_lt_of_le (by decide) uD2.1.1) (uD2.1.2.1 0 (by decide)) rfl (D_readSum uD2 _) (fun v1 w1 h1 => ?_)
              obtain ⟨rfl, rfl⟩ := h1
              refine x_aload_n 157 0 (ab_dd tk_m_readUnit 78 rfl) rfl rfl rfl ?_
              refine x_iload_n 158 2 (ab_dd tk_m_readUnit 79 rfl) rfl rfl rfl ?_
              refine t_callV 161 M_m_codes 0 1 [_] (ab_dd tk_m_readUnit 80 rfl) rfl (by first | decide | omega) K_m_codes V_m_codes.1 V_m_codes.2 L_m_166 rfl (Nat.le_of_ble_eq_true rfl) (by decide) (Nat.lt_of_lt_of_le (by decide) uD2.1.1) (uD2.1.2.1 0 (by decide)) rfl (D_codes uD2 _) (fun v1 w1 h1 => ?_)
              obtain ⟨rfl, rfl⟩ := h1
              have hsp : pS tp n la (f + 1) 3 deep p = .inl (pE tp n q1 2) := by
                show qUn _ _ _ _ _ = _
                unfold qUn
                rw [if_neg h6]
                rw [if_neg h39]
                rw [hX1, pB_r]
                try dsimp only
                rw [if_neg (by omega)]
                try rfl
              exact x_vret (ab_dd tk_m_readUnit 81 rfl) ⟨rfl, _, rfl, ((rF.rf.tr uF1).tr uF2), by rw [hsp]; exact uD2⟩
            · refine x_aload_n 140 0 (ab_dd tk_m_readUnit 69 rfl) rfl rfl rfl ?_
              refine t_callV 143 M_m_next 5 0 [] (ab_dd tk_m_readUnit 70 rfl) rfl (by first | decide | omega) K_m_next V_m_next.1 V_m_next.2 L_m_152 rfl (Nat.le_of_ble_eq_true rfl) (by decide) (Nat.lt_of_lt_of_le (by decide) uL1.1.1) (uL1.1.2.1 0 (by decide)) rfl (L_next uL1 (by omega)) (fun v1 w1 h1 => ?_)
              obtain ⟨rfl, U3, rfl, uF3, uC3, uL3⟩ := h1
              have ht3 := tE_g uL1.2.2.2.2.2.1 (show tK tp n q1 ≠ 24 by omega)
              refine x_goto 151 (ab_dd tk_m_readUnit 71 rfl) (by decide) ?_
              refine x_aload_n 152 0 (ab_dd tk_m_readUnit 75 rfl) rfl rfl rfl ?_
              refine x_iload_n 153 1 (ab_dd tk_m_readUnit 76 rfl) rfl rfl rfl ?_
              refine t_callV 156 M_m_readSum (10 * (6 - deep) + 11 + 3) 1 [_] (ab_dd tk_m_readUnit 77 rfl) rfl (by omega) K_m_readSum V_m_readSum.1 V_m_readSum.2 L_m_175 rfl (Nat.le_of_ble_eq_true rfl) (by decide) (Nat.lt_of_lt_of_le (by decide) uL3.1.1) (uL3.1.2.1 0 (by decide)) rfl (hS _ _ deep (tE tp n q1) uL3 (by exact (((rF.rf.tr uF1).tr uF3).2 15 (by omega)).trans hr) ((congrFun (uC3.trans uf1) 183).trans (appC_N _ _ _)) (by first | omega | (simp only [List.length_append, List.length_cons, List.length_nil]; omega)) (by omega) (by omega)) (fun v1 w1 h1 => ?_)
              obtain ⟨rfl, U4, rfl, uF4, uO4⟩ := h1
              rcases hX4 : pS tp n la f 2 deep (tE tp n q1) with e4 | ⟨q4, c4⟩
              · rw [hX4] at uO4
                have uD4 : rD U4 e4 := uO4
                have hu4 := uD4.2.2.2
                refine x_aload_n 157 0 (ab_dd tk_m_readUnit 78 rfl) rfl rfl rfl ?_
                refine x_iload_n 158 2 (ab_dd tk_m_readUnit 79 rfl) rfl rfl rfl ?_
                refine t_callV 161 M_m_codes 0 1 [_] (ab_dd tk_m_readUnit 80 rfl) rfl (by first | decide | omega) K_m_codes V_m_codes.1 V_m_codes.2 L_m_166 rfl (Nat.le_of_ble_eq_true rfl) (by decide) (Nat.lt_of_lt_of_le (by decide) uD4.1.1) (uD4.1.2.1 0 (by decide)) rfl (D_codes uD4 _) (fun v1 w1 h1 => ?_)
                obtain ⟨rfl, rfl⟩ := h1
                have hsp : pS tp n la (f + 1) 3 deep p = .inl (e4) := by
                  show qUn _ _ _ _ _ = _
                  unfold qUn
                  rw [if_neg h6]
                  rw [if_neg h39]
                  rw [hX1, pB_r]
                  try dsimp only
                  rw [if_pos (show 39 ≤ tK tp n q1 ∧ tK tp n q1 ≤ 41 by omega), hX4]
                  try rfl
                exact x_vret (ab_dd tk_m_readUnit 81 rfl) ⟨rfl, _, rfl, (((rF.rf.tr uF1).tr uF3).tr uF4), by rw [hsp]; exact uD4⟩
              · rw [hX4] at uO4
                have uL4 : rL U4 tp n q4 := uO4.1
                have uC4 := uO4.2
                have hg4 := pS_len _ _ _ _ _ _ uL3.2.2.2.2.2.1 hX4
                obtain ⟨hga4, hgb4, hgc4, hgd4⟩ := hg4
                have hge4 := hgd4 (by decide)
                have uf4 : sI U4 124 = appC N (sI S 124) (c1 ++ c4) := by rw [uC4, (uC3.trans uf1), appC_app]
                refine x_aload_n 157 0 (ab_dd tk_m_readUnit 78 rfl) rfl rfl rfl ?_
                refine x_iload_n 158 2 (ab_dd tk_m_readUnit 79 rfl) rfl rfl rfl ?_
                refine t_callV 161 M_m_codes 0 1 [_] (ab_dd tk_m_readUnit 80 rfl) rfl (by first | decide | omega) K_m_codes V_m_codes.1 V_m_codes.2 L_m_166 rfl (Nat.le_of_ble_eq_true rfl) (by decide) (Nat.lt_of_lt_of_le (by decide) uL4.1.1) (uL4.1.2.1 0 (by decide)) rfl (L_codes uL4 ((congrFun uf4 183).trans (appC_N _ _ _)) (by first | omega | (simp only [List.length_append, List.length_cons, List.length_nil]; omega)) 3005) (fun v1 w1 h1 => ?_)
                obtain ⟨rfl, U5, rfl, uF5, uC5, uL5⟩ := h1
                have uf5 : sI U5 124 = appC N (sI S 124) ((c1 ++ c4) ++ [3005]) := by rw [uC5, uf4, appC_app]
                have hsp : pS tp n la (f + 1) 3 deep p = .inr (q4, ((c1 ++ c4) ++ [3005])) := by
                  show qUn _ _ _ _ _ = _
                  unfold qUn
                  rw [if_neg h6]
                  rw [if_neg h39]
                  rw [hX1, pB_r]
                  try dsimp only
                  rw [if_pos (show 39 ≤ tK tp n q1 ∧ tK tp n q1 ≤ 41 by omega), hX4]
                  show Sum.inr _ = _
                  rw [show 2964 + tK tp n q1 = 3005 by omega]
                  try rfl
                exact x_vret (ab_dd tk_m_readUnit 81 rfl) ⟨rfl, _, rfl, ((((rF.rf.tr uF1).tr uF3).tr uF4).tr uF5), by rw [hsp]; exact ⟨uL5, uf5⟩⟩
          · refine x_sipush 105 3004 (ab_dd tk_m_readUnit 53 rfl) rfl (by decide) (x_topn 3004 rfl ?_)
            refine x_goto 111 (ab_dd tk_m_readUnit 54 rfl) (by decide) ?_
            refine x_istore_n 112 [some (.ref 120), some (.int (nI deep)), some (.int (nI 3004))] 2 (ab_dd tk_m_readUnit 56 rfl) rfl rfl (by decide) rfl ?_
            refine x_aload_n 113 0 (ab_dd tk_m_readUnit 57 rfl) rfl rfl rfl ?_
            refine x_bipush 115 39 (ab_dd tk_m_readUnit 58 rfl) rfl (by decide) (x_topn 39 rfl ?_)
            refine t_callV 118 M_m_is 0 1 [_] (ab_dd tk_m_readUnit 59 rfl) rfl (by first | decide | omega) K_m_is V_m_is.1 V_m_is.2 L_m_149 rfl (Nat.le_of_ble_eq_true rfl) (by decide) (Nat.lt_of_lt_of_le (by decide) uL1.1.1) (uL1.1.2.1 0 (by decide)) rfl (L_is uL1 39 (by decide)) (fun v1 w1 h1 => ?_)
            obtain ⟨rfl, rfl⟩ := h1
            refine x_if_ne_f 121 (ab_dd tk_m_readUnit 60 rfl) rfl 139 (by decide) (if_neg h84) ?_
            refine x_aload_n 122 0 (ab_dd tk_m_readUnit 61 rfl) rfl rfl rfl ?_
            refine x_bipush 124 40 (ab_dd tk_m_readUnit 62 rfl) rfl (by decide) (x_topn 40 rfl ?_)
            refine t_callV 127 M_m_is 0 1 [_] (ab_dd tk_m_readUnit 63 rfl) rfl (by first | decide | omega) K_m_is V_m_is.1 V_m_is.2 L_m_149 rfl (Nat.le_of_ble_eq_true rfl) (by decide) (Nat.lt_of_lt_of_le (by decide) uL1.1.1) (uL1.1.2.1 0 (by decide)) rfl (L_is uL1 40 (by decide)) (fun v1 w1 h1 => ?_)
            obtain ⟨rfl, rfl⟩ := h1
            refine x_if_ne_t 139 (ab_dd tk_m_readUnit 64 rfl) (by decide) (by rw [if_pos h99]; decide) ?_
            refine x_aload_n 140 0 (ab_dd tk_m_readUnit 69 rfl) rfl rfl rfl ?_
            refine t_callV 143 M_m_next 5 0 [] (ab_dd tk_m_readUnit 70 rfl) rfl (by first | decide | omega) K_m_next V_m_next.1 V_m_next.2 L_m_152 rfl (Nat.le_of_ble_eq_true rfl) (by decide) (Nat.lt_of_lt_of_le (by decide) uL1.1.1) (uL1.1.2.1 0 (by decide)) rfl (L_next uL1 (by omega)) (fun v1 w1 h1 => ?_)
            obtain ⟨rfl, U6, rfl, uF6, uC6, uL6⟩ := h1
            have ht6 := tE_g uL1.2.2.2.2.2.1 (show tK tp n q1 ≠ 24 by omega)
            refine x_goto 151 (ab_dd tk_m_readUnit 71 rfl) (by decide) ?_
            refine x_aload_n 152 0 (ab_dd tk_m_readUnit 75 rfl) rfl rfl rfl ?_
            refine x_iload_n 153 1 (ab_dd tk_m_readUnit 76 rfl) rfl rfl rfl ?_
            refine t_callV 156 M_m_readSum (10 * (6 - deep) + 11 + 3) 1 [_] (ab_dd tk_m_readUnit 77 rfl) rfl (by omega) K_m_readSum V_m_readSum.1 V_m_readSum.2 L_m_175 rfl (Nat.le_of_ble_eq_true rfl) (by decide) (Nat.lt_of_lt_of_le (by decide) uL6.1.1) (uL6.1.2.1 0 (by decide)) rfl (hS _ _ deep (tE tp n q1) uL6 (by exact (((rF.rf.tr uF1).tr uF6).2 15 (by omega)).trans hr) ((congrFun (uC6.trans uf1) 183).trans (appC_N _ _ _)) (by first | omega | (simp only [List.length_append, List.length_cons, List.length_nil]; omega)) (by omega) (by omega)) (fun v1 w1 h1 => ?_)
            obtain ⟨rfl, U7, rfl, uF7, uO7⟩ := h1
            rcases hX7 : pS tp n la f 2 deep (tE tp n q1) with e7 | ⟨q7, c7⟩
            · rw [hX7] at uO7
              have uD7 : rD U7 e7 := uO7
              have hu7 := uD7.2.2.2
              refine x_aload_n 157 0 (ab_dd tk_m_readUnit 78 rfl) rfl rfl rfl ?_
              refine x_iload_n 158 2 (ab_dd tk_m_readUnit 79 rfl) rfl rfl rfl ?_
              refine t_callV 161 M_m_codes 0 1 [_] (ab_dd tk_m_readUnit 80 rfl) rfl (by first | decide | omega) K_m_codes V_m_codes.1 V_m_codes.2 L_m_166 rfl (Nat.le_of_ble_eq_true rfl) (by decide) (Nat.lt_of_lt_of_le (by decide) uD7.1.1) (uD7.1.2.1 0 (by decide)) rfl (D_codes uD7 _) (fun v1 w1 h1 => ?_)
              obtain ⟨rfl, rfl⟩ := h1
              have hsp : pS tp n la (f + 1) 3 deep p = .inl (e7) := by
                show qUn _ _ _ _ _ = _
                unfold qUn
                rw [if_neg h6]
                rw [if_neg h39]
                rw [hX1, pB_r]
                try dsimp only
                rw [if_pos (show 39 ≤ tK tp n q1 ∧ tK tp n q1 ≤ 41 by omega), hX7]
                try rfl
              exact x_vret (ab_dd tk_m_readUnit 81 rfl) ⟨rfl, _, rfl, (((rF.rf.tr uF1).tr uF6).tr uF7), by rw [hsp]; exact uD7⟩
            · rw [hX7] at uO7
              have uL7 : rL U7 tp n q7 := uO7.1
              have uC7 := uO7.2
              have hg7 := pS_len _ _ _ _ _ _ uL6.2.2.2.2.2.1 hX7
              obtain ⟨hga7, hgb7, hgc7, hgd7⟩ := hg7
              have hge7 := hgd7 (by decide)
              have uf7 : sI U7 124 = appC N (sI S 124) (c1 ++ c7) := by rw [uC7, (uC6.trans uf1), appC_app]
              refine x_aload_n 157 0 (ab_dd tk_m_readUnit 78 rfl) rfl rfl rfl ?_
              refine x_iload_n 158 2 (ab_dd tk_m_readUnit 79 rfl) rfl rfl rfl ?_
              refine t_callV 161 M_m_codes 0 1 [_] (ab_dd tk_m_readUnit 80 rfl) rfl (by first | decide | omega) K_m_codes V_m_codes.1 V_m_codes.2 L_m_166 rfl (Nat.le_of_ble_eq_true rfl) (by decide) (Nat.lt_of_lt_of_le (by decide) uL7.1.1) (uL7.1.2.1 0 (by decide)) rfl (L_codes uL7 ((congrFun uf7 183).trans (appC_N _ _ _)) (by first | omega | (simp only [List.length_append, List.length_cons, List.length_nil]; omega)) 3004) (fun v1 w1 h1 => ?_)
              obtain ⟨rfl, U8, rfl, uF8, uC8, uL8⟩ := h1
              have uf8 : sI U8 124 = appC N (sI S 124) ((c1 ++ c7) ++ [3004]) := by rw [uC8, uf7, appC_app]
              have hsp : pS tp n la (f + 1) 3 deep p = .inr (q7, ((c1 ++ c7) ++ [3004])) := by
                show qUn _ _ _ _ _ = _
                unfold qUn
                rw [if_neg h6]
                rw [if_neg h39]
                rw [hX1, pB_r]
                try dsimp only
                rw [if_pos (show 39 ≤ tK tp n q1 ∧ tK tp n q1 ≤ 41 by omega), hX7]
                show Sum.inr _ = _
                rw [show 2964 + tK tp n q1 = 3004 by omega]
                try rfl
              exact x_vret (ab_dd tk_m_readUnit 81 rfl) ⟨rfl, _, rfl, ((((rF.rf.tr uF1).tr uF6).tr uF7).tr uF8), by rw [hsp]; exact ⟨uL8, uf8⟩⟩
        · refine x_sipush 90 3003 (ab_dd tk_m_readUnit 47 rfl) rfl (by decide) (x_topn 3003 rfl ?_)
          refine x_goto 111 (ab_dd tk_m_readUnit 48 rfl) (by decide) ?_
          refine x_istore_n 112 [some (.ref 120), some (.int (nI deep)), some (.int (nI 3003))] 2 (ab_dd tk_m_readUnit 56 rfl) rfl rfl (by decide) rfl ?_
          refine x_aload_n 113 0 (ab_dd tk_m_readUnit 57 rfl) rfl rfl rfl ?_
          refine x_bipush 115 39 (ab_dd tk_m_readUnit 58 rfl) rfl (by decide) (x_topn 39 rfl ?_)
          refine t_callV 118 M_m_is 0 1 [_] (ab_dd tk_m_readUnit 59 rfl) rfl (by first | decide | omega) K_m_is V_m_is.1 V_m_is.2 L_m_149 rfl (Nat.le_of_ble_eq_true rfl) (by decide) (Nat.lt_of_lt_of_le (by decide) uL1.1.1) (uL1.1.2.1 0 (by decide)) rfl (L_is uL1 39 (by decide)) (fun v1 w1 h1 => ?_)
          obtain ⟨rfl, rfl⟩ := h1
          refine x_if_ne_t 139 (ab_dd tk_m_readUnit 60 rfl) (by decide) (by rw [if_pos h84]; decide) ?_
          refine x_aload_n 140 0 (ab_dd tk_m_readUnit 69 rfl) rfl rfl rfl ?_
          refine t_callV 143 M_m_next 5 0 [] (ab_dd tk_m_readUnit 70 rfl) rfl (by first | decide | omega) K_m_next V_m_next.1 V_m_next.2 L_m_152 rfl (Nat.le_of_ble_eq_true rfl) (by decide) (Nat.lt_of_lt_of_le (by decide) uL1.1.1) (uL1.1.2.1 0 (by decide)) rfl (L_next uL1 (by omega)) (fun v1 w1 h1 => ?_)
          obtain ⟨rfl, U9, rfl, uF9, uC9, uL9⟩ := h1
          have ht9 := tE_g uL1.2.2.2.2.2.1 (show tK tp n q1 ≠ 24 by omega)
          refine x_goto 151 (ab_dd tk_m_readUnit 71 rfl) (by decide) ?_
          refine x_aload_n 152 0 (ab_dd tk_m_readUnit 75 rfl) rfl rfl rfl ?_
          refine x_iload_n 153 1 (ab_dd tk_m_readUnit 76 rfl) rfl rfl rfl ?_
          refine t_callV 156 M_m_readSum (10 * (6 - deep) + 11 + 3) 1 [_] (ab_dd tk_m_readUnit 77 rfl) rfl (by omega) K_m_readSum V_m_readSum.1 V_m_readSum.2 L_m_175 rfl (Nat.le_of_ble_eq_true rfl) (by decide) (Nat.lt_of_lt_of_le (by decide) uL9.1.1) (uL9.1.2.1 0 (by decide)) rfl (hS _ _ deep (tE tp n q1) uL9 (by exact (((rF.rf.tr uF1).tr uF9).2 15 (by omega)).trans hr) ((congrFun (uC9.trans uf1) 183).trans (appC_N _ _ _)) (by first | omega | (simp only [List.length_append, List.length_cons, List.length_nil]; omega)) (by omega) (by omega)) (fun v1 w1 h1 => ?_)
          obtain ⟨rfl, U10, rfl, uF10, uO10⟩ := h1
          rcases hX10 : pS tp n la f 2 deep (tE tp n q1) with e10 | ⟨q10, c10⟩
          · rw [hX10] at uO10
            have uD10 : rD U10 e10 := uO10
            have hu10 := uD10.2.2.2
            refine x_aload_n 157 0 (ab_dd tk_m_readUnit 78 rfl) rfl rfl rfl ?_
            refine x_iload_n 158 2 (ab_dd tk_m_readUnit 79 rfl) rfl rfl rfl ?_
            refine t_callV 161 M_m_codes 0 1 [_] (ab_dd tk_m_readUnit 80 rfl) rfl (by first | decide | omega) K_m_codes V_m_codes.1 V_m_codes.2 L_m_166 rfl (Nat.le_of_ble_eq_true rfl) (by decide) (Nat.lt_of_lt_of_le (by decide) uD10.1.1) (uD10.1.2.1 0 (by decide)) rfl (D_codes uD10 _) (fun v1 w1 h1 => ?_)
            obtain ⟨rfl, rfl⟩ := h1
            have hsp : pS tp n la (f + 1) 3 deep p = .inl (e10) := by
              show qUn _ _ _ _ _ = _
              unfold qUn
              rw [if_neg h6]
              rw [if_neg h39]
              rw [hX1, pB_r]
              try dsimp only
              rw [if_pos (show 39 ≤ tK tp n q1 ∧ tK tp n q1 ≤ 41 by omega), hX10]
              try rfl
            exact x_vret (ab_dd tk_m_readUnit 81 rfl) ⟨rfl, _, rfl, (((rF.rf.tr uF1).tr uF9).tr uF10), by rw [hsp]; exact uD10⟩
          · rw [hX10] at uO10
            have uL10 : rL U10 tp n q10 := uO10.1
            have uC10 := uO10.2
            have hg10 := pS_len _ _ _ _ _ _ uL9.2.2.2.2.2.1 hX10
            obtain ⟨hga10, hgb10, hgc10, hgd10⟩ := hg10
            have hge10 := hgd10 (by decide)
            have uf10 : sI U10 124 = appC N (sI S 124) (c1 ++ c10) := by rw [uC10, (uC9.trans uf1), appC_app]
            refine x_aload_n 157 0 (ab_dd tk_m_readUnit 78 rfl) rfl rfl rfl ?_
            refine x_iload_n 158 2 (ab_dd tk_m_readUnit 79 rfl) rfl rfl rfl ?_
            refine t_callV 161 M_m_codes 0 1 [_] (ab_dd tk_m_readUnit 80 rfl) rfl (by first | decide | omega) K_m_codes V_m_codes.1 V_m_codes.2 L_m_166 rfl (Nat.le_of_ble_eq_true rfl) (by decide) (Nat.lt_of_lt_of_le (by decide) uL10.1.1) (uL10.1.2.1 0 (by decide)) rfl (L_codes uL10 ((congrFun uf10 183).trans (appC_N _ _ _)) (by first | omega | (simp only [List.length_append, List.length_cons, List.length_nil]; omega)) 3003) (fun v1 w1 h1 => ?_)
            obtain ⟨rfl, U11, rfl, uF11, uC11, uL11⟩ := h1
            have uf11 : sI U11 124 = appC N (sI S 124) ((c1 ++ c10) ++ [3003]) := by rw [uC11, uf10, appC_app]
            have hsp : pS tp n la (f + 1) 3 deep p = .inr (q10, ((c1 ++ c10) ++ [3003])) := by
              show qUn _ _ _ _ _ = _
              unfold qUn
              rw [if_neg h6]
              rw [if_neg h39]
              rw [hX1, pB_r]
              try dsimp only
              rw [if_pos (show 39 ≤ tK tp n q1 ∧ tK tp n q1 ≤ 41 by omega), hX10]
              show Sum.inr _ = _
              rw [show 2964 + tK tp n q1 = 3003 by omega]
              try rfl
            exact x_vret (ab_dd tk_m_readUnit 81 rfl) ⟨rfl, _, rfl, ((((rF.rf.tr uF1).tr uF9).tr uF10).tr uF11), by rw [hsp]; exact ⟨uL11, uf11⟩⟩
    · refine x_aload_n 43 0 (ab_dd tk_m_readUnit 22 rfl) rfl rfl rfl ?_
      refine x_iload_n 44 1 (ab_dd tk_m_readUnit 23 rfl) rfl rfl rfl ?_
      refine t_callV 47 M_m_goesIn 6 1 [_] (ab_dd tk_m_readUnit 24 rfl) rfl (by first | decide | omega) K_m_goesIn V_m_goesIn.1 V_m_goesIn.2 L_m_172 rfl (Nat.le_of_ble_eq_true rfl) (by decide) (Nat.lt_of_lt_of_le (by decide) hL.1.1) (hL.1.2.1 0 (by decide)) rfl (L_goesIn hL deep hdeep (by omega) (by omega)) (fun v1 w1 h1 => ?_)
      rcases h1 with ⟨hd12, rfl, U12, rfl, uF12, uD12⟩ | ⟨hd12, rfl, U12, rfl, uF12, uC12, uL12⟩
      · have hu12 := uD12.2.2.2
        refine x_if_ne_f 50 (ab_dd tk_m_readUnit 25 rfl) rfl 51 (by decide) (by decide) ?_
        have hsp : pS tp n la (f + 1) 3 deep p = .inl (pE tp n p 4) := by
          show qUn _ _ _ _ _ = _
          unfold qUn
          rw [if_neg h6]
          rw [if_pos h39]
          rw [if_pos hd12]
          try rfl
        exact x_vret (ab_dd tk_m_readUnit 26 rfl) ⟨rfl, _, rfl, (rF.rf.tr uF12), by rw [hsp]; exact uD12⟩
      · have ht12 := tE_g hL.2.2.2.2.2.1 (show tK tp n p ≠ 24 by omega)
        refine x_if_ne_t 51 (ab_dd tk_m_readUnit 25 rfl) (by decide) (by decide) ?_
        refine x_aload_n 52 0 (ab_dd tk_m_readUnit 27 rfl) rfl rfl rfl ?_
        refine x_iload_n 53 1 (ab_dd tk_m_readUnit 28 rfl) rfl rfl rfl ?_
        refine x_iconst 54 1 (ab_dd tk_m_readUnit 29 rfl) rfl (by decide) (x_topn 1 rfl ?_)
        refine x_iadd 55 (ab_dd tk_m_readUnit 30 rfl) rfl (x_topn (deep + 1) (nI_add _ _) ?_)
        refine t_callV 58 M_m_readTruth (10 * (6 - (deep + 1)) + 11 + 6) 1 [_] (ab_dd tk_m_readUnit 31 rfl) rfl (by omega) K_m_readTruth V_m_readTruth.1 V_m_readTruth.2 L_m_184 rfl (Nat.le_of_ble_eq_true rfl) (by decide) (Nat.lt_of_lt_of_le (by decide) uL12.1.1) (uL12.1.2.1 0 (by decide)) rfl (hR _ _ (deep + 1) (tE tp n p) uL12 (by exact ((rF.rf.tr uF12).2 15 (by omega)).trans hr) ((congrFun (uC12.trans rfl) 183).trans hN) (by first | omega | (simp only [List.length_append, List.length_cons, List.length_nil]; omega)) (by omega) (by omega)) (fun v1 w1 h1 => ?_)
        obtain ⟨rfl, U13, rfl, uF13, uO13⟩ := h1
        rcases hX13 : pS tp n la f 5 (deep + 1) (tE tp n p) with e13 | ⟨q13, c13⟩
        · rw [hX13] at uO13
          have uD13 : rD U13 e13 := uO13
          have hu13 := uD13.2.2.2
          refine x_aload_n 59 0 (ab_dd tk_m_readUnit 32 rfl) rfl rfl rfl ?_
          refine x_bipush 61 38 (ab_dd tk_m_readUnit 33 rfl) rfl (by decide) (x_topn 38 rfl ?_)
          refine t_callV 64 M_m_eats 6 1 [_] (ab_dd tk_m_readUnit 34 rfl) rfl (by first | decide | omega) K_m_eats V_m_eats.1 V_m_eats.2 L_m_178 rfl (Nat.le_of_ble_eq_true rfl) (by decide) (Nat.lt_of_lt_of_le (by decide) uD13.1.1) (uD13.1.2.1 0 (by decide)) rfl (D_eats uD13 _) (fun v1 w1 h1 => ?_)
          obtain ⟨rfl, rfl⟩ := h1
          refine x_if_ne_f 67 (ab_dd tk_m_readUnit 35 rfl) rfl 72 (by decide) (by decide) ?_
          refine x_aload_n 68 0 (ab_dd tk_m_readUnit 36 rfl) rfl rfl rfl ?_
          refine x_iconst 69 2 (ab_dd tk_m_readUnit 37 rfl) rfl (by decide) (x_topn 2 rfl ?_)
          refine t_callV 72 M_m_fails 0 1 [_] (ab_dd tk_m_readUnit 38 rfl) rfl (by first | decide | omega) K_m_fails V_m_fails.1 V_m_fails.2 L_m_155 rfl (Nat.le_of_ble_eq_true rfl) (by decide) (Nat.lt_of_lt_of_le (by decide) uD13.1.1) (uD13.1.2.1 0 (by decide)) rfl (D_fails uD13 _) (fun v1 w1 h1 => ?_)
          obtain ⟨rfl, rfl⟩ := h1
          have hsp : pS tp n la (f + 1) 3 deep p = .inl (e13) := by
            show qUn _ _ _ _ _ = _
            unfold qUn
            rw [if_neg h6]
            rw [if_pos h39]
            rw [if_neg hd12]
            rw [hX13]
            try rfl
          exact x_vret (ab_dd tk_m_readUnit 39 rfl) ⟨rfl, _, rfl, ((rF.rf.tr uF12).tr uF13), by rw [hsp]; exact uD13⟩
        · rw [hX13] at uO13
          have uL13 : rL U13 tp n q13 := uO13.1
          have uC13 := uO13.2
          have hg13 := pS_len _ _ _ _ _ _ uL12.2.2.2.2.2.1 hX13
          obtain ⟨hga13, hgb13, hgc13, hgd13⟩ := hg13
          have hge13 := hgd13 (by decide)
          have uf13 : sI U13 124 = appC N (sI S 124) c13 := uC13.trans (congrArg (fun z => appC N z c13) (uC12.trans rfl))
          refine x_aload_n 59 0 (ab_dd tk_m_readUnit 32 rfl) rfl rfl rfl ?_
          refine x_bipush 61 38 (ab_dd tk_m_readUnit 33 rfl) rfl (by decide) (x_topn 38 rfl ?_)
          refine t_callV 64 M_m_eats 6 1 [_] (ab_dd tk_m_readUnit 34 rfl) rfl (by first | decide | omega) K_m_eats V_m_eats.1 V_m_eats.2 L_m_178 rfl (Nat.le_of_ble_eq_true rfl) (by decide) (Nat.lt_of_lt_of_le (by decide) uL13.1.1) (uL13.1.2.1 0 (by decide)) rfl (L_eats uL13 38 (by decide) (by decide)) (fun v1 w1 h1 => ?_)
          rcases h1 with ⟨hk14, rfl, U14, rfl, uF14, uC14, uL14⟩ | ⟨hk14, rfl, rfl⟩
          · have ht14 := tE_g uL13.2.2.2.2.2.1 (show tK tp n q13 ≠ 24 by omega)
            refine x_if_ne_t 72 (ab_dd tk_m_readUnit 35 rfl) (by decide) (by decide) ?_
            have hsp : pS tp n la (f + 1) 3 deep p = .inr ((tE tp n q13), c13) := by
              show qUn _ _ _ _ _ = _
              unfold qUn
              rw [if_neg h6]
              rw [if_pos h39]
              rw [if_neg hd12]
              rw [hX13, pB_r]
              try dsimp only
              try unfold qX
              rw [if_pos hk14]
              try dsimp only
              try rfl
            exact x_vret (ab_dd tk_m_readUnit 39 rfl) ⟨rfl, _, rfl, (((rF.rf.tr uF12).tr uF13).tr uF14), by rw [hsp]; exact ⟨uL14, (uC14.trans uf13)⟩⟩
          · skip
            refine x_if_ne_f 67 (ab_dd tk_m_readUnit 35 rfl) rfl 72 (by decide) (by decide) ?_
            refine x_aload_n 68 0 (ab_dd tk_m_readUnit 36 rfl) rfl rfl rfl ?_
            refine x_iconst 69 2 (ab_dd tk_m_readUnit 37 rfl) rfl (by decide) (x_topn 2 rfl ?_)
            refine t_callV 72 M_m_fails 0 1 [_] (ab_dd tk_m_readUnit 38 rfl) rfl (by first | decide | omega) K_m_fails V_m_fails.1 V_m_fails.2 L_m_155 rfl (Nat.le_of_ble_eq_true rfl) (by decide) (Nat.lt_of_lt_of_le (by decide) uL13.1.1) (uL13.1.2.1 0 (by decide)) rfl (L_fails uL13 2 (by decide) (by decide)) (fun v1 w1 h1 => ?_)
            obtain ⟨rfl, U15, rfl, uF15, uQ15, uD15⟩ := h1
            have hu15 := uD15.2.2.2
            have hsp : pS tp n la (f + 1) 3 deep p = .inl (pE tp n q13 2) := by
              show qUn _ _ _ _ _ = _
              unfold qUn
              rw [if_neg h6]
              rw [if_pos h39]
              rw [if_neg hd12]
              rw [hX13, pB_r]
              try dsimp only
              try unfold qX
              rw [if_neg hk14]
              try rfl
            exact x_vret (ab_dd tk_m_readUnit 39 rfl) ⟨rfl, _, rfl, (((rF.rf.tr uF12).tr uF13).tr uF15), by rw [hsp]; exact uD15⟩
  · refine x_aload_n 10 0 (ab_dd tk_m_readUnit 4 rfl) rfl rfl rfl ?_
    refine x_iload_n 11 1 (ab_dd tk_m_readUnit 5 rfl) rfl rfl rfl ?_
    refine t_callV 14 M_m_goesIn 6 1 [_] (ab_dd tk_m_readUnit 6 rfl) rfl (by first | decide | omega) K_m_goesIn V_m_goesIn.1 V_m_goesIn.2 L_m_172 rfl (Nat.le_of_ble_eq_true rfl) (by decide) (Nat.lt_of_lt_of_le (by decide) hL.1.1) (hL.1.2.1 0 (by decide)) rfl (L_goesIn hL deep hdeep (by omega) (by omega)) (fun v1 w1 h1 => ?_)
    rcases h1 with ⟨hd16, rfl, U16, rfl, uF16, uD16⟩ | ⟨hd16, rfl, U16, rfl, uF16, uC16, uL16⟩
    · have hu16 := uD16.2.2.2
      refine x_if_ne_f 17 (ab_dd tk_m_readUnit 7 rfl) rfl 18 (by decide) (by decide) ?_
      have hsp : pS tp n la (f + 1) 3 deep p = .inl (pE tp n p 4) := by
        show qUn _ _ _ _ _ = _
        unfold qUn
        rw [if_pos h6]
        rw [if_pos hd16]
        try rfl
      exact x_vret (ab_dd tk_m_readUnit 8 rfl) ⟨rfl, _, rfl, (rF.rf.tr uF16), by rw [hsp]; exact uD16⟩
    · have ht16 := tE_g hL.2.2.2.2.2.1 (show tK tp n p ≠ 24 by omega)
      refine x_if_ne_t 18 (ab_dd tk_m_readUnit 7 rfl) (by decide) (by decide) ?_
      refine x_aload_n 19 0 (ab_dd tk_m_readUnit 9 rfl) rfl rfl rfl ?_
      refine x_iload_n 20 1 (ab_dd tk_m_readUnit 10 rfl) rfl rfl rfl ?_
      refine x_iconst 21 1 (ab_dd tk_m_readUnit 11 rfl) rfl (by decide) (x_topn 1 rfl ?_)
      refine x_iadd 22 (ab_dd tk_m_readUnit 12 rfl) rfl (x_topn (deep + 1) (nI_add _ _) ?_)
      refine t_callV 25 M_m_readUnit (10 * (6 - (deep + 1)) + 11 + 4) 1 [_] (ab_dd tk_m_readUnit 13 rfl) rfl (by omega) K_m_readUnit V_m_readUnit.1 V_m_readUnit.2 L_m_193 rfl (Nat.le_of_ble_eq_true rfl) (by decide) (Nat.lt_of_lt_of_le (by decide) uL16.1.1) (uL16.1.2.1 0 (by decide)) rfl (hU _ _ (deep + 1) (tE tp n p) uL16 (by exact ((rF.rf.tr uF16).2 15 (by omega)).trans hr) ((congrFun (uC16.trans rfl) 183).trans hN) (by first | omega | (simp only [List.length_append, List.length_cons, List.length_nil]; omega)) (by omega) (by omega)) (fun v1 w1 h1 => ?_)
      obtain ⟨rfl, U17, rfl, uF17, uO17⟩ := h1
      rcases hX17 : pS tp n la f 3 (deep + 1) (tE tp n p) with e17 | ⟨q17, c17⟩
      · rw [hX17] at uO17
        have uD17 : rD U17 e17 := uO17
        have hu17 := uD17.2.2.2
        refine x_aload_n 26 0 (ab_dd tk_m_readUnit 14 rfl) rfl rfl rfl ?_
        refine x_sipush 29 3006 (ab_dd tk_m_readUnit 15 rfl) rfl (by decide) (x_topn 3006 rfl ?_)
        refine t_callV 32 M_m_codes 0 1 [_] (ab_dd tk_m_readUnit 16 rfl) rfl (by first | decide | omega) K_m_codes V_m_codes.1 V_m_codes.2 L_m_166 rfl (Nat.le_of_ble_eq_true rfl) (by decide) (Nat.lt_of_lt_of_le (by decide) uD17.1.1) (uD17.1.2.1 0 (by decide)) rfl (D_codes uD17 _) (fun v1 w1 h1 => ?_)
        obtain ⟨rfl, rfl⟩ := h1
        have hsp : pS tp n la (f + 1) 3 deep p = .inl (e17) := by
          show qUn _ _ _ _ _ = _
          unfold qUn
          rw [if_pos h6]
          rw [if_neg hd16]
          rw [hX17]
          try rfl
        exact x_vret (ab_dd tk_m_readUnit 17 rfl) ⟨rfl, _, rfl, ((rF.rf.tr uF16).tr uF17), by rw [hsp]; exact uD17⟩
      · rw [hX17] at uO17
        have uL17 : rL U17 tp n q17 := uO17.1
        have uC17 := uO17.2
        have hg17 := pS_len _ _ _ _ _ _ uL16.2.2.2.2.2.1 hX17
        obtain ⟨hga17, hgb17, hgc17, hgd17⟩ := hg17
        have hge17 := hgd17 (by decide)
        have uf17 : sI U17 124 = appC N (sI S 124) c17 := uC17.trans (congrArg (fun z => appC N z c17) (uC16.trans rfl))
        refine x_aload_n 26 0 (ab_dd tk_m_readUnit 14 rfl) rfl rfl rfl ?_
        refine x_sipush 29 3006 (ab_dd tk_m_readUnit 15 rfl) rfl (by decide) (x_topn 3006 rfl ?_)
        refine t_callV 32 M_m_codes 0 1 [_] (ab_dd tk_m_readUnit 16 rfl) rfl (by first | decide | omega) K_m_codes V_m_codes.1 V_m_codes.2 L_m_166 rfl (Nat.le_of_ble_eq_true rfl) (by decide) (Nat.lt_of_lt_of_le (by decide) uL17.1.1) (uL17.1.2.1 0 (by decide)) rfl (L_codes uL17 ((congrFun uf17 183).trans (appC_N _ _ _)) (by first | omega | (simp only [List.length_append, List.length_cons, List.length_nil]; omega)) 3006) (fun v1 w1 h1 => ?_)
        obtain ⟨rfl, U18, rfl, uF18, uC18, uL18⟩ := h1
        have uf18 : sI U18 124 = appC N (sI S 124) (c17 ++ [3006]) := by rw [uC18, uf17, appC_app]
        have hsp : pS tp n la (f + 1) 3 deep p = .inr (q17, (c17 ++ [3006])) := by
          show qUn _ _ _ _ _ = _
          unfold qUn
          rw [if_pos h6]
          rw [if_neg hd16]
          rw [hX17]
          try rfl
        exact x_vret (ab_dd tk_m_readUnit 17 rfl) ⟨rfl, _, rfl, (((rF.rf.tr uF16).tr uF17).tr uF18), by rw [hsp]; exact ⟨uL18, uf18⟩⟩
theorem j_all {G : ab_G} {tp : Nat → Nat} {n la : Nat} (hla : la < 2) : ∀ f g, g ≤ f → JM G tp n la M_m_readAtom 0 1 g ∧ JM G tp n la M_m_readTerm 1 2 g ∧ JM G tp n la M_m_readSum 2 3 g ∧ JM G tp n la M_m_readUnit 3 4 g ∧ JM G tp n la M_m_readBoth 4 5 g ∧ JM G tp n la M_m_readTruth 5 6 g
  | 0, g, hg => by
    obtain rfl : g = 0 := by omega
    exact ⟨fun _ _ _ _ _ _ _ _ _ z => absurd z (by omega), fun _ _ _ _ _ _ _ _ _ z => absurd z (by omega), fun _ _ _ _ _ _ _ _ _ z => absurd z (by omega), fun _ _ _ _ _ _ _ _ _ z => absurd z (by omega), fun _ _ _ _ _ _ _ _ _ z => absurd z (by omega), fun _ _ _ _ _ _ _ _ _ z => absurd z (by omega)⟩
  | f + 1, g, hg => by
    have ih := j_all (G := G) (tp := tp) (n := n) hla f
    by_cases h : g ≤ f
    · exact ih g h
    · obtain rfl : g = f + 1 := by omega
      have h1 := ih f (Nat.le_refl _)
      exact ⟨j_readAtom hla h1.2.2.1 h1.2.2.2.2.2, j_readTerm hla (fun g hg => (ih g hg).1), j_readSum hla (fun g hg => (ih g hg).2.1), j_readUnit hla h1.2.2.1 h1.2.2.2.1 h1.2.2.2.2.2, j_readBoth hla (fun g hg => (ih g hg).2.2.2.1), j_readTruth hla (fun g hg => (ih g hg).2.2.2.2.1)⟩
