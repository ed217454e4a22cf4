def tb_re_readAtom : List (Nat × Instr × Nat) := [(0, .aload_n 0, 1), (1, .getfield 25, 3), (4, .iconst 2, 1), (5, .if_icmp .ne 18, 3), (8, .aload_n 0, 1), (9, .aload_n 0, 1), (10, .getfield 28, 3), (13, .invokevirtual 165, 3), (16, .aload_n 0, 1), (17, .invokevirtual 64, 3), (20, .goto 102, 3), (23, .aload_n 0, 1), (24, .bipush 40, 2), (26, .invokevirtual 161, 3), (29, .ifCond .eq 33, 3), (32, .aload_n 0, 1), (33, .invokevirtual 171, 3), (36, .ifCond .eq 86, 3), (39, .aload_n 0, 1), (40, .invokevirtual 149, 3), (43, .aload_n 0, 1), (44, .bipush 41, 2), (46, .invokevirtual 81, 3), (49, .aload_n 0, 1), (50, .dup, 1), (51, .getfield 48, 3), (54, .iconst 1, 1), (55, .isub, 1), (56, .putfield 48, 3), (59, .goto 63, 3), (62, .aload_n 0, 1), (63, .ldc 175, 2), (65, .invokevirtual 93, 3), (68, .ifCond .eq 27, 3), (71, .aload_n 0, 1), (72, .invokevirtual 171, 3), (75, .ifCond .eq 47, 3), (78, .aload_n 0, 1), (79, .invokevirtual 177, 3), (82, .aload_n 0, 1), (83, .dup, 1), (84, .getfield 48, 3), (87, .iconst 1, 1), (88, .isub, 1), (89, .putfield 48, 3), (92, .goto 30, 3), (95, .aload_n 0, 1), (96, .invokevirtual 180, 3), (99, .ifCond .eq 18, 3), (102, .aload_n 0, 1), (103, .aload_n 0, 1), (104, .invokevirtual 180, 3), (107, .invokevirtual 165, 3), (110, .aload_n 0, 1), (111, .invokevirtual 64, 3), (114, .goto 8, 3), (117, .aload_n 0, 1), (118, .iconst 2, 1), (119, .invokevirtual 114, 3), (122, .return_, 1)]
theorem tk_re_readAtom : ∀ q ∈ tb_re_readAtom, decode M_re_readAtom.2.1 q.1 = .ok q.2 := by decide +kernel
theorem D_re_readAtom {G : ab_G} {S : ab_S} {n : Nat} {e : Nat × Nat} (hD : qD S n e) : ab_C G 7 M_re_readAtom [.ref 72] (sw S) (fun v w' => v = none ∧ ∃ S', w' = sw S' ∧ qG S S' ∧ qD S' n e) := by
  refine x_enter [some (.ref 72)] (by decide) (Nat.le_of_ble_eq_true rfl) rfl (fun v w' h => by obtain ⟨rfl, -⟩ := h; trivial) ?_
  refine x_aload_n 1 0 (ab_dd tk_re_readAtom 0 rfl) rfl rfl rfl ?_
  refine t_getI 4 (ab_dd tk_re_readAtom 1 rfl) rfl F_re_25 (by decide) (Nat.lt_of_lt_of_le (by decide) hD.1.1) (hD.1.2.1 22 (by decide)) rfl (x_topn 0 hD.2.2.2.2.2.2.1 ?_)
  refine x_iconst 5 2 (ab_dd tk_re_readAtom 2 rfl) rfl (by decide) (x_topn 2 rfl ?_)
  refine x_icmp_ne_t 23 (ab_dd tk_re_readAtom 3 rfl) (by decide) (fun z => absurd ((nI_eq (a := 0) (b := 2) (by omega) (by omega)).mp z) (show ¬ (0 = 2) by decide)) ?_
  refine x_aload_n 24 0 (ab_dd tk_re_readAtom 11 rfl) rfl rfl rfl ?_
  refine x_bipush 26 40 (ab_dd tk_re_readAtom 12 rfl) rfl (by decide) (x_topn 40 rfl ?_)
  refine t_callV 29 M_re_isSign 0 1 [_] (ab_dd tk_re_readAtom 13 rfl) rfl (by first | decide | omega) K_re_isSign V_re_isSign.1 V_re_isSign.2 L_re_161 rfl (Nat.le_of_ble_eq_true rfl) (by decide) (Nat.lt_of_lt_of_le (by decide) hD.1.1) (hD.1.2.1 22 (by decide)) rfl (DA_isSign hD _) (fun v1 w1 h1 => ?_)
  obtain ⟨rfl, rfl⟩ := h1
  refine x_if_eq_t 62 (ab_dd tk_re_readAtom 14 rfl) (by decide) (by decide) ?_
  refine x_aload_n 63 0 (ab_dd tk_re_readAtom 30 rfl) rfl rfl rfl ?_
  refine x_ldcS 65 10 (ab_dd tk_re_readAtom 31 rfl) rfl (by decide) (List.mem_of_getElem? (i := 10) rfl) ?_
  refine t_callV 68 M_re_isWord 4 1 [_] (ab_dd tk_re_readAtom 32 rfl) rfl (by first | decide | omega) K_re_isWord V_re_isWord.1 V_re_isWord.2 L_re_93 rfl (Nat.le_of_ble_eq_true rfl) (by decide) (Nat.lt_of_lt_of_le (by decide) hD.1.1) (hD.1.2.1 22 (by decide)) rfl (DA_isWord hD _) (fun v1 w1 h1 => ?_)
  obtain ⟨rfl, rfl⟩ := h1
  refine x_if_eq_t 95 (ab_dd tk_re_readAtom 33 rfl) (by decide) (by decide) ?_
  refine x_aload_n 96 0 (ab_dd tk_re_readAtom 46 rfl) rfl rfl rfl ?_
  refine t_callV 99 M_re_nameHere 5 0 [] (ab_dd tk_re_readAtom 47 rfl) rfl (by first | decide | omega) K_re_nameHere V_re_nameHere.1 V_re_nameHere.2 L_re_180 rfl (Nat.le_of_ble_eq_true rfl) (by decide) (Nat.lt_of_lt_of_le (by decide) hD.1.1) (hD.1.2.1 22 (by decide)) rfl (DA_nameHere hD) (fun v1 w1 h1 => ?_)
  obtain ⟨rfl, rfl⟩ := h1
  refine x_if_eq_t 117 (ab_dd tk_re_readAtom 48 rfl) (by decide) (by decide) ?_
  refine x_aload_n 118 0 (ab_dd tk_re_readAtom 56 rfl) rfl rfl rfl ?_
  refine x_iconst 119 2 (ab_dd tk_re_readAtom 57 rfl) rfl (by decide) (x_topn 2 rfl ?_)
  refine t_callV 122 M_re_refuse 0 1 [_] (ab_dd tk_re_readAtom 58 rfl) rfl (by first | decide | omega) K_re_refuse V_re_refuse.1 V_re_refuse.2 L_re_114 rfl (Nat.le_of_ble_eq_true rfl) (by decide) (Nat.lt_of_lt_of_le (by decide) hD.1.1) (hD.1.2.1 22 (by decide)) rfl (DA_refuse hD _) (fun v1 w1 h1 => ?_)
  obtain ⟨rfl, U1, rfl, uG1, uD1⟩ := h1
  exact x_vret (ab_dd tk_re_readAtom 59 rfl) ⟨rfl, _, rfl, (qG.rf.tr uG1), uD1⟩
def tb_re_readTerm : List (Nat × Instr × Nat) := [(0, .aload_n 0, 1), (1, .invokevirtual 168, 3), (4, .iconst 0, 1), (5, .istore_n 1, 1), (6, .iload_n 1, 1), (7, .sipush 900, 3), (10, .if_icmp .ge 32, 3), (13, .aload_n 0, 1), (14, .bipush 42, 2), (16, .invokevirtual 161, 3), (19, .ifCond .eq 23, 3), (22, .aload_n 0, 1), (23, .invokevirtual 64, 3), (26, .aload_n 0, 1), (27, .invokevirtual 168, 3), (30, .aload_n 0, 1), (31, .bipush (-12), 2), (33, .invokevirtual 165, 3), (36, .iinc 1 1, 3), (39, .goto (-33), 3), (42, .return_, 1)]
theorem tk_re_readTerm : ∀ q ∈ tb_re_readTerm, decode M_re_readTerm.2.1 q.1 = .ok q.2 := by decide +kernel
theorem D_re_readTerm {G : ab_G} {S : ab_S} {n : Nat} {e : Nat × Nat} (hD : qD S n e) : ab_C G 8 M_re_readTerm [.ref 72] (sw S) (fun v w' => v = none ∧ ∃ S', w' = sw S' ∧ qG S S' ∧ qD S' n e) := by
  refine x_enter [some (.ref 72), none] (by decide) (Nat.le_of_ble_eq_true rfl) rfl (fun v w' h => by obtain ⟨rfl, -⟩ := h; trivial) ?_
  refine x_aload_n 1 0 (ab_dd tk_re_readTerm 0 rfl) rfl rfl rfl ?_
  refine t_callV 4 M_re_readAtom 7 0 [] (ab_dd tk_re_readTerm 1 rfl) rfl (by decide) K_re_readAtom V_re_readAtom.1 V_re_readAtom.2 L_re_168 rfl (Nat.le_of_ble_eq_true rfl) (by decide) (Nat.lt_of_lt_of_le (by decide) hD.1.1) (hD.1.2.1 22 (by decide)) rfl (D_re_readAtom hD) (fun v1 w1 h1 => ?_)
  obtain ⟨rfl, U1, rfl, uG1, uD1⟩ := h1
  refine x_iconst 5 0 (ab_dd tk_re_readTerm 2 rfl) rfl (by decide) (x_topn 0 rfl ?_)
  refine x_istore_n 6 [some (.ref 72), some (.int (nI 0))] 1 (ab_dd tk_re_readTerm 3 rfl) rfl rfl (by decide) rfl ?_
  refine x_iload_n 7 1 (ab_dd tk_re_readTerm 4 rfl) rfl rfl rfl ?_
  refine x_sipush 10 900 (ab_dd tk_re_readTerm 5 rfl) rfl (by decide) (x_topn 900 rfl ?_)
  refine x_icmp_ge_f 13 (ab_dd tk_re_readTerm 6 rfl) rfl 42 (by decide) (fun z => absurd ((nI_leI (a := 900) (b := 0) (by omega) (by omega)).mp z) (show ¬ (900 ≤ 0) by decide)) ?_
  refine x_aload_n 14 0 (ab_dd tk_re_readTerm 7 rfl) rfl rfl rfl ?_
  refine x_bipush 16 42 (ab_dd tk_re_readTerm 8 rfl) rfl (by decide) (x_topn 42 rfl ?_)
  refine t_callV 19 M_re_isSign 0 1 [_] (ab_dd tk_re_readTerm 9 rfl) rfl (by first | decide | omega) K_re_isSign V_re_isSign.1 V_re_isSign.2 L_re_161 rfl (Nat.le_of_ble_eq_true rfl) (by decide) (Nat.lt_of_lt_of_le (by decide) uD1.1.1) (uD1.1.2.1 22 (by decide)) rfl (DA_isSign uD1 _) (fun v1 w1 h1 => ?_)
  obtain ⟨rfl, rfl⟩ := h1
  refine x_if_eq_t 42 (ab_dd tk_re_readTerm 10 rfl) (by decide) (by decide) ?_
  exact x_vret (ab_dd tk_re_readTerm 20 rfl) ⟨rfl, _, rfl, (qG.rf.tr uG1), uD1⟩
def tb_re_readSum : List (Nat × Instr × Nat) := [(0, .aload_n 0, 1), (1, .invokevirtual 158, 3), (4, .iconst 0, 1), (5, .istore_n 1, 1), (6, .iload_n 1, 1), (7, .sipush 900, 3), (10, .if_icmp .ge 57, 3), (13, .aload_n 0, 1), (14, .bipush 43, 2), (16, .invokevirtual 161, 3), (19, .ifCond .ne 12, 3), (22, .aload_n 0, 1), (23, .bipush 45, 2), (25, .invokevirtual 161, 3), (28, .ifCond .eq 39, 3), (31, .aload_n 0, 1), (32, .bipush 43, 2), (34, .invokevirtual 161, 3), (37, .ifCond .eq 8, 3), (40, .bipush (-10), 2), (42, .goto 5, 3), (45, .bipush (-11), 2), (47, .istore_n 2, 1), (48, .aload_n 0, 1), (49, .invokevirtual 64, 3), (52, .aload_n 0, 1), (53, .invokevirtual 158, 3), (56, .aload_n 0, 1), (57, .iload_n 2, 1), (58, .invokevirtual 165, 3), (61, .iinc 1 1, 3), (64, .goto (-58), 3), (67, .return_, 1)]
theorem tk_re_readSum : ∀ q ∈ tb_re_readSum, decode M_re_readSum.2.1 q.1 = .ok q.2 := by decide +kernel
theorem D_re_readSum {G : ab_G} {S : ab_S} {n : Nat} {e : Nat × Nat} (hD : qD S n e) : ab_C G 9 M_re_readSum [.ref 72] (sw S) (fun v w' => v = none ∧ ∃ S', w' = sw S' ∧ qG S S' ∧ qD S' n e) := by
  refine x_enter [some (.ref 72), none, none] (by decide) (Nat.le_of_ble_eq_true rfl) rfl (fun v w' h => by obtain ⟨rfl, -⟩ := h; trivial) ?_
  refine x_aload_n 1 0 (ab_dd tk_re_readSum 0 rfl) rfl rfl rfl ?_
  refine t_callV 4 M_re_readTerm 8 0 [] (ab_dd tk_re_readSum 1 rfl) rfl (by decide) K_re_readTerm V_re_readTerm.1 V_re_readTerm.2 L_re_158 rfl (Nat.le_of_ble_eq_true rfl) (by decide) (Nat.lt_of_lt_of_le (by decide) hD.1.1) (hD.1.2.1 22 (by decide)) rfl (D_re_readTerm hD) (fun v1 w1 h1 => ?_)
  obtain ⟨rfl, U1, rfl, uG1, uD1⟩ := h1
  refine x_iconst 5 0 (ab_dd tk_re_readSum 2 rfl) rfl (by decide) (x_topn 0 rfl ?_)
  refine x_istore_n 6 [some (.ref 72), some (.int (nI 0)), none] 1 (ab_dd tk_re_readSum 3 rfl) rfl rfl (by decide) rfl ?_
  refine x_iload_n 7 1 (ab_dd tk_re_readSum 4 rfl) rfl rfl rfl ?_
  refine x_sipush 10 900 (ab_dd tk_re_readSum 5 rfl) rfl (by decide) (x_topn 900 rfl ?_)
  refine x_icmp_ge_f 13 (ab_dd tk_re_readSum 6 rfl) rfl 67 (by decide) (fun z => absurd ((nI_leI (a := 900) (b := 0) (by omega) (by omega)).mp z) (show ¬ (900 ≤ 0) by decide)) ?_
  refine x_aload_n 14 0 (ab_dd tk_re_readSum 7 rfl) rfl rfl rfl ?_
  refine x_bipush 16 43 (ab_dd tk_re_readSum 8 rfl) rfl (by decide) (x_topn 43 rfl ?_)
  refine t_callV 19 M_re_isSign 0 1 [_] (ab_dd tk_re_readSum 9 rfl) rfl (by first | decide | omega) K_re_isSign V_re_isSign.1 V_re_isSign.2 L_re_161 rfl (Nat.le_of_ble_eq_true rfl) (by decide) (Nat.lt_of_lt_of_le (by decide) uD1.1.1) (uD1.1.2.1 22 (by decide)) rfl (DA_isSign uD1 _) (fun v1 w1 h1 => ?_)
  obtain ⟨rfl, rfl⟩ := h1
  refine x_if_ne_f 22 (ab_dd tk_re_readSum 10 rfl) rfl 31 (by decide) (by decide) ?_
  refine x_aload_n 23 0 (ab_dd tk_re_readSum 11 rfl) rfl rfl rfl ?_
  refine x_bipush 25 45 (ab_dd tk_re_readSum 12 rfl) rfl (by decide) (x_topn 45 rfl ?_)
  refine t_callV 28 M_re_isSign 0 1 [_] (ab_dd tk_re_readSum 13 rfl) rfl (by first | decide | omega) K_re_isSign V_re_isSign.1 V_re_isSign.2 L_re_161 rfl (Nat.le_of_ble_eq_true rfl) (by decide) (Nat.lt_of_lt_of_le (by decide) uD1.1.1) (uD1.1.2.1 22 (by decide)) rfl (DA_isSign uD1 _) (fun v1 w1 h1 => ?_)
  obtain ⟨rfl, rfl⟩ := h1
  refine x_if_eq_t 67 (ab_dd tk_re_readSum 14 rfl) (by decide) (by decide) ?_
  exact x_vret (ab_dd tk_re_readSum 32 rfl) ⟨rfl, _, rfl, (qG.rf.tr uG1), uD1⟩
def tb_re_readComparison : List (Nat × Instr × Nat) := [(0, .aload_n 0, 1), (1, .invokevirtual 149, 3), (4, .bipush (-13), 2), (6, .istore_n 1, 1), (7, .aload_n 0, 1), (8, .bipush 60, 2), (10, .invokevirtual 161, 3), (13, .ifCond .eq 9, 3), (16, .bipush (-14), 2), (18, .istore_n 1, 1), (19, .goto 33, 3), (22, .aload_n 0, 1), (23, .bipush 62, 2), (25, .invokevirtual 161, 3), (28, .ifCond .eq 9, 3), (31, .bipush (-15), 2), (33, .istore_n 1, 1), (34, .goto 18, 3), (37, .aload_n 0, 1), (38, .bipush 61, 2), (40, .invokevirtual 161, 3), (43, .ifCond .ne 9, 3), (46, .aload_n 0, 1), (47, .iconst 2, 1), (48, .invokevirtual 114, 3), (51, .return_, 1), (52, .aload_n 0, 1), (53, .invokevirtual 64, 3), (56, .aload_n 0, 1), (57, .invokevirtual 149, 3), (60, .aload_n 0, 1), (61, .iload_n 1, 1), (62, .invokevirtual 165, 3), (65, .return_, 1)]
theorem tk_re_readComparison : ∀ q ∈ tb_re_readComparison, decode M_re_readComparison.2.1 q.1 = .ok q.2 := by decide +kernel
theorem D_re_readComparison {G : ab_G} {S : ab_S} {n : Nat} {e : Nat × Nat} (hD : qD S n e) : ab_C G 10 M_re_readComparison [.ref 72] (sw S) (fun v w' => v = none ∧ ∃ S', w' = sw S' ∧ qG S S' ∧ qD S' n e) := by
  refine x_enter [some (.ref 72), none] (by decide) (Nat.le_of_ble_eq_true rfl) rfl (fun v w' h => by obtain ⟨rfl, -⟩ := h; trivial) ?_
  refine x_aload_n 1 0 (ab_dd tk_re_readComparison 0 rfl) rfl rfl rfl ?_
  refine t_callV 4 M_re_readSum 9 0 [] (ab_dd tk_re_readComparison 1 rfl) rfl (by decide) K_re_readSum V_re_readSum.1 V_re_readSum.2 L_re_149 rfl (Nat.le_of_ble_eq_true rfl) (by decide) (Nat.lt_of_lt_of_le (by decide) hD.1.1) (hD.1.2.1 22 (by decide)) rfl (D_re_readSum hD) (fun v1 w1 h1 => ?_)
  obtain ⟨rfl, U1, rfl, uG1, uD1⟩ := h1
  refine x_bipush 6 (-13) (ab_dd tk_re_readComparison 2 rfl) rfl (by decide) ?_
  refine x_istore_n 7 [some (.ref 72), some (.int ((-13)))] 1 (ab_dd tk_re_readComparison 3 rfl) rfl rfl (by decide) rfl ?_
  refine x_aload_n 8 0 (ab_dd tk_re_readComparison 4 rfl) rfl rfl rfl ?_
  refine x_bipush 10 60 (ab_dd tk_re_readComparison 5 rfl) rfl (by decide) (x_topn 60 rfl ?_)
  refine t_callV 13 M_re_isSign 0 1 [_] (ab_dd tk_re_readComparison 6 rfl) rfl (by first | decide | omega) K_re_isSign V_re_isSign.1 V_re_isSign.2 L_re_161 rfl (Nat.le_of_ble_eq_true rfl) (by decide) (Nat.lt_of_lt_of_le (by decide) uD1.1.1) (uD1.1.2.1 22 (by decide)) rfl (DA_isSign uD1 _) (fun v1 w1 h1 => ?_)
  obtain ⟨rfl, rfl⟩ := h1
  refine x_if_eq_t 22 (ab_dd tk_re_readComparison 7 rfl) (by decide) (by decide) ?_
  refine x_aload_n 23 0 (ab_dd tk_re_readComparison 11 rfl) rfl rfl rfl ?_
  refine x_bipush 25 62 (ab_dd tk_re_readComparison 12 rfl) rfl (by decide) (x_topn 62 rfl ?_)
  refine t_callV 28 M_re_isSign 0 1 [_] (ab_dd tk_re_readComparison 13 rfl) rfl (by first | decide | omega) K_re_isSign V_re_isSign.1 V_re_isSign.2 L_re_161 rfl (Nat.le_of_ble_eq_true rfl) (by decide) (Nat.lt_of_lt_of_le (by decide) uD1.1.1) (uD1.1.2.1 22 (by decide)) rfl (DA_isSign uD1 _) (fun v1 w1 h1 => ?_)
  obtain ⟨rfl, rfl⟩ := h1
  refine x_if_eq_t 37 (ab_dd tk_re_readComparison 14 rfl) (by decide) (by decide) ?_
  refine x_aload_n 38 0 (ab_dd tk_re_readComparison 18 rfl) rfl rfl rfl ?_
  refine x_bipush 40 61 (ab_dd tk_re_readComparison 19 rfl) rfl (by decide) (x_topn 61 rfl ?_)
  refine t_callV 43 M_re_isSign 0 1 [_] (ab_dd tk_re_readComparison 20 rfl) rfl (by first | decide | omega) K_re_isSign V_re_isSign.1 V_re_isSign.2 L_re_161 rfl (Nat.le_of_ble_eq_true rfl) (by decide) (Nat.lt_of_lt_of_le (by decide) uD1.1.1) (uD1.1.2.1 22 (by decide)) rfl (DA_isSign uD1 _) (fun v1 w1 h1 => ?_)
  obtain ⟨rfl, rfl⟩ := h1
  refine x_if_ne_f 46 (ab_dd tk_re_readComparison 21 rfl) rfl 52 (by decide) (by decide) ?_
  refine x_aload_n 47 0 (ab_dd tk_re_readComparison 22 rfl) rfl rfl rfl ?_
  refine x_iconst 48 2 (ab_dd tk_re_readComparison 23 rfl) rfl (by decide) (x_topn 2 rfl ?_)
  refine t_callV 51 M_re_refuse 0 1 [_] (ab_dd tk_re_readComparison 24 rfl) rfl (by first | decide | omega) K_re_refuse V_re_refuse.1 V_re_refuse.2 L_re_114 rfl (Nat.le_of_ble_eq_true rfl) (by decide) (Nat.lt_of_lt_of_le (by decide) uD1.1.1) (uD1.1.2.1 22 (by decide)) rfl (DA_refuse uD1 _) (fun v1 w1 h1 => ?_)
  obtain ⟨rfl, U2, rfl, uG2, uD2⟩ := h1
  exact x_vret (ab_dd tk_re_readComparison 25 rfl) ⟨rfl, _, rfl, ((qG.rf.tr uG1).tr uG2), uD2⟩
def tb_re_readUnit : List (Nat × Instr × Nat) := [(0, .aload_n 0, 1), (1, .ldc 200, 2), (3, .invokevirtual 93, 3), (6, .ifCond .eq 33, 3), (9, .aload_n 0, 1), (10, .invokevirtual 171, 3), (13, .ifCond .eq 69, 3), (16, .aload_n 0, 1), (17, .invokevirtual 195, 3), (20, .aload_n 0, 1), (21, .dup, 1), (22, .getfield 48, 3), (25, .iconst 1, 1), (26, .isub, 1), (27, .putfield 48, 3), (30, .aload_n 0, 1), (31, .bipush (-16), 2), (33, .invokevirtual 165, 3), (36, .goto 46, 3), (39, .aload_n 0, 1), (40, .bipush 91, 2), (42, .invokevirtual 161, 3), (45, .ifCond .eq 33, 3), (48, .aload_n 0, 1), (49, .invokevirtual 171, 3), (52, .ifCond .eq 30, 3), (55, .aload_n 0, 1), (56, .invokevirtual 146, 3), (59, .aload_n 0, 1), (60, .bipush 93, 2), (62, .invokevirtual 81, 3), (65, .aload_n 0, 1), (66, .dup, 1), (67, .getfield 48, 3), (70, .iconst 1, 1), (71, .isub, 1), (72, .putfield 48, 3), (75, .goto 7, 3), (78, .aload_n 0, 1), (79, .invokevirtual 202, 3), (82, .return_, 1)]
theorem tk_re_readUnit : ∀ q ∈ tb_re_readUnit, decode M_re_readUnit.2.1 q.1 = .ok q.2 := by decide +kernel
theorem D_re_readUnit {G : ab_G} {S : ab_S} {n : Nat} {e : Nat × Nat} (hD : qD S n e) : ab_C G 11 M_re_readUnit [.ref 72] (sw S) (fun v w' => v = none ∧ ∃ S', w' = sw S' ∧ qG S S' ∧ qD S' n e) := by
  refine x_enter [some (.ref 72)] (by decide) (Nat.le_of_ble_eq_true rfl) rfl (fun v w' h => by obtain ⟨rfl, -⟩ := h; trivial) ?_
  refine x_aload_n 1 0 (ab_dd tk_re_readUnit 0 rfl) rfl rfl rfl ?_
  refine x_ldcS 3 9 (ab_dd tk_re_readUnit 1 rfl) rfl (by decide) (List.mem_of_getElem? (i := 9) rfl) ?_
  refine t_callV 6 M_re_isWord 4 1 [_] (ab_dd tk_re_readUnit 2 rfl) rfl (by first | decide | omega) K_re_isWord V_re_isWord.1 V_re_isWord.2 L_re_93 rfl (Nat.le_of_ble_eq_true rfl) (by decide) (Nat.lt_of_lt_of_le (by decide) hD.1.1) (hD.1.2.1 22 (by decide)) rfl (DA_isWord hD _) (fun v1 w1 h1 => ?_)
  obtain ⟨rfl, rfl⟩ := h1
  refine x_if_eq_t 39 (ab_dd tk_re_readUnit 3 rfl) (by decide) (by decide) ?_
  refine x_aload_n 40 0 (ab_dd tk_re_readUnit 19 rfl) rfl rfl rfl ?_
  refine x_bipush 42 91 (ab_dd tk_re_readUnit 20 rfl) rfl (by decide) (x_topn 91 rfl ?_)
  refine t_callV 45 M_re_isSign 0 1 [_] (ab_dd tk_re_readUnit 21 rfl) rfl (by first | decide | omega) K_re_isSign V_re_isSign.1 V_re_isSign.2 L_re_161 rfl (Nat.le_of_ble_eq_true rfl) (by decide) (Nat.lt_of_lt_of_le (by decide) hD.1.1) (hD.1.2.1 22 (by decide)) rfl (DA_isSign hD _) (fun v1 w1 h1 => ?_)
  obtain ⟨rfl, rfl⟩ := h1
  refine x_if_eq_t 78 (ab_dd tk_re_readUnit 22 rfl) (by decide) (by decide) ?_
  refine x_aload_n 79 0 (ab_dd tk_re_readUnit 38 rfl) rfl rfl rfl ?_
  refine t_callV 82 M_re_readComparison 10 0 [] (ab_dd tk_re_readUnit 39 rfl) rfl (by decide) K_re_readComparison V_re_readComparison.1 V_re_readComparison.2 L_re_202 rfl (Nat.le_of_ble_eq_true rfl) (by decide) (Nat.lt_of_lt_of_le (by decide) hD.1.1) (hD.1.2.1 22 (by decide)) rfl (D_re_readComparison hD) (fun v1 w1 h1 => ?_)
  obtain ⟨rfl, U1, rfl, uG1, uD1⟩ := h1
  exact x_vret (ab_dd tk_re_readUnit 40 rfl) ⟨rfl, _, rfl, (qG.rf.tr uG1), uD1⟩
def tb_re_readBoth : List (Nat × Instr × Nat) := [(0, .aload_n 0, 1), (1, .invokevirtual 195, 3), (4, .iconst 0, 1), (5, .istore_n 1, 1), (6, .iload_n 1, 1), (7, .sipush 900, 3), (10, .if_icmp .ge 32, 3), (13, .aload_n 0, 1), (14, .ldc 198, 2), (16, .invokevirtual 93, 3), (19, .ifCond .eq 23, 3), (22, .aload_n 0, 1), (23, .invokevirtual 64, 3), (26, .aload_n 0, 1), (27, .invokevirtual 195, 3), (30, .aload_n 0, 1), (31, .bipush (-17), 2), (33, .invokevirtual 165, 3), (36, .iinc 1 1, 3), (39, .goto (-33), 3), (42, .return_, 1)]
theorem tk_re_readBoth : ∀ q ∈ tb_re_readBoth, decode M_re_readBoth.2.1 q.1 = .ok q.2 := by decide +kernel
theorem D_re_readBoth {G : ab_G} {S : ab_S} {n : Nat} {e : Nat × Nat} (hD : qD S n e) : ab_C G 12 M_re_readBoth [.ref 72] (sw S) (fun v w' => v = none ∧ ∃ S', w' = sw S' ∧ qG S S' ∧ qD S' n e) := by
  refine x_enter [some (.ref 72), none] (by decide) (Nat.le_of_ble_eq_true rfl) rfl (fun v w' h => by obtain ⟨rfl, -⟩ := h; trivial) ?_
  refine x_aload_n 1 0 (ab_dd tk_re_readBoth 0 rfl) rfl rfl rfl ?_
  refine t_callV 4 M_re_readUnit 11 0 [] (ab_dd tk_re_readBoth 1 rfl) rfl (by decide) K_re_readUnit V_re_readUnit.1 V_re_readUnit.2 L_re_195 rfl (Nat.le_of_ble_eq_true rfl) (by decide) (Nat.lt_of_lt_of_le (by decide) hD.1.1) (hD.1.2.1 22 (by decide)) rfl (D_re_readUnit hD) (fun v1 w1 h1 => ?_)
  obtain ⟨rfl, U1, rfl, uG1, uD1⟩ := h1
  refine x_iconst 5 0 (ab_dd tk_re_readBoth 2 rfl) rfl (by decide) (x_topn 0 rfl ?_)
  refine x_istore_n 6 [some (.ref 72), some (.int (nI 0))] 1 (ab_dd tk_re_readBoth 3 rfl) rfl rfl (by decide) rfl ?_
  refine x_iload_n 7 1 (ab_dd tk_re_readBoth 4 rfl) rfl rfl rfl ?_
  refine x_sipush 10 900 (ab_dd tk_re_readBoth 5 rfl) rfl (by decide) (x_topn 900 rfl ?_)
  refine x_icmp_ge_f 13 (ab_dd tk_re_readBoth 6 rfl) rfl 42 (by decide) (fun z => absurd ((nI_leI (a := 900) (b := 0) (by omega) (by omega)).mp z) (show ¬ (900 ≤ 0) by decide)) ?_
  refine x_aload_n 14 0 (ab_dd tk_re_readBoth 7 rfl) rfl rfl rfl ?_
  refine x_ldcS 16 19 (ab_dd tk_re_readBoth 8 rfl) rfl (by decide) (List.mem_of_getElem? (i := 19) rfl) ?_
  refine t_callV 19 M_re_isWord 4 1 [_] (ab_dd tk_re_readBoth 9 rfl) rfl (by first | decide | omega) K_re_isWord V_re_isWord.1 V_re_isWord.2 L_re_93 rfl (Nat.le_of_ble_eq_true rfl) (by decide) (Nat.lt_of_lt_of_le (by decide) uD1.1.1) (uD1.1.2.1 22 (by decide)) rfl (DA_isWord uD1 _) (fun v1 w1 h1 => ?_)
  obtain ⟨rfl, rfl⟩ := h1
  refine x_if_eq_t 42 (ab_dd tk_re_readBoth 10 rfl) (by decide) (by decide) ?_
  exact x_vret (ab_dd tk_re_readBoth 20 rfl) ⟨rfl, _, rfl, (qG.rf.tr uG1), uD1⟩
def tb_re_readTruth : List (Nat × Instr × Nat) := [(0, .aload_n 0, 1), (1, .invokevirtual 190, 3), (4, .iconst 0, 1), (5, .istore_n 1, 1), (6, .iload_n 1, 1), (7, .sipush 900, 3), (10, .if_icmp .ge 32, 3), (13, .aload_n 0, 1), (14, .ldc 193, 2), (16, .invokevirtual 93, 3), (19, .ifCond .eq 23, 3), (22, .aload_n 0, 1), (23, .invokevirtual 64, 3), (26, .aload_n 0, 1), (27, .invokevirtual 190, 3), (30, .aload_n 0, 1), (31, .bipush (-18), 2), (33, .invokevirtual 165, 3), (36, .iinc 1 1, 3), (39, .goto (-33), 3), (42, .return_, 1)]
theorem tk_re_readTruth : ∀ q ∈ tb_re_readTruth, decode M_re_readTruth.2.1 q.1 = .ok q.2 := by decide +kernel
theorem D_re_readTruth {G : ab_G} {S : ab_S} {n : Nat} {e : Nat × Nat} (hD : qD S n e) : ab_C G 13 M_re_readTruth [.ref 72] (sw S) (fun v w' => v = none ∧ ∃ S', w' = sw S' ∧ qG S S' ∧ qD S' n e) := by
  refine x_enter [some (.ref 72), none] (by decide) (Nat.le_of_ble_eq_true rfl) rfl (fun v w' h => by obtain ⟨rfl, -⟩ := h; trivial) ?_
  refine x_aload_n 1 0 (ab_dd tk_re_readTruth 0 rfl) rfl rfl rfl ?_
  refine t_callV 4 M_re_readBoth 12 0 [] (ab_dd tk_re_readTruth 1 rfl) rfl (by decide) K_re_readBoth V_re_readBoth.1 V_re_readBoth.2 L_re_190 rfl (Nat.le_of_ble_eq_true rfl) (by decide) (Nat.lt_of_lt_of_le (by decide) hD.1.1) (hD.1.2.1 22 (by decide)) rfl (D_re_readBoth hD) (fun v1 w1 h1 => ?_)
  obtain ⟨rfl, U1, rfl, uG1, uD1⟩ := h1
  refine x_iconst 5 0 (ab_dd tk_re_readTruth 2 rfl) rfl (by decide) (x_topn 0 rfl ?_)
  refine x_istore_n 6 [some (.ref 72), some (.int (nI 0))] 1 (ab_dd tk_re_readTruth 3 rfl) rfl rfl (by decide) rfl ?_
  refine x_iload_n 7 1 (ab_dd tk_re_readTruth 4 rfl) rfl rfl rfl ?_
  refine x_sipush 10 900 (ab_dd tk_re_readTruth 5 rfl) rfl (by decide) (x_topn 900 rfl ?_)
  refine x_icmp_ge_f 13 (ab_dd tk_re_readTruth 6 rfl) rfl 42 (by decide) (fun z => absurd ((nI_leI (a := 900) (b := 0) (by omega) (by omega)).mp z) (show ¬ (900 ≤ 0) by decide)) ?_
  refine x_aload_n 14 0 (ab_dd tk_re_readTruth 7 rfl) rfl rfl rfl ?_
  refine x_ldcS 16 20 (ab_dd tk_re_readTruth 8 rfl) rfl (by decide) (List.mem_of_getElem? (i := 20) rfl) ?_
  refine t_callV 19 M_re_isWord 4 1 [_] (ab_dd tk_re_readTruth 9 rfl) rfl (by first | decide | omega) K_re_isWord V_re_isWord.1 V_re_isWord.2 L_re_93 rfl (Nat.le_of_ble_eq_true rfl) (by decide) (Nat.lt_of_lt_of_le (by decide) uD1.1.1) (uD1.1.2.1 22 (by decide)) rfl (DA_isWord uD1 _) (fun v1 w1 h1 => ?_)
  obtain ⟨rfl, rfl⟩ := h1
  refine x_if_eq_t 42 (ab_dd tk_re_readTruth 10 rfl) (by decide) (by decide) ?_
  exact x_vret (ab_dd tk_re_readTruth 20 rfl) ⟨rfl, _, rfl, (qG.rf.tr uG1), uD1⟩
def qOut (S : ab_S) (tp : Nat → Nat) (n N deep p : Nat) (r : pR) (v : Option Value) (w' : ab_H) : Prop := v = none ∧ ∃ S', w' = sw S' ∧ qF S S' ∧ (match r with
  | .inl e => qD S' n e ∧ bL S' (N + (n - p))
  | .inr x => qLv S' tp n x.1 ∧ sI S' 77 = appL N (sI S 77) x.2 ∧ sI S' 72 12 = nI (N + x.2.length) ∧ sI S' 72 10 = nI deep)
def KM (G : ab_G) (tp : Nat → Nat) (n la : Nat) (M : ab_M) (m rk g : Nat) : Prop := ∀ (S : ab_S) (N deep p : Nat), qLv S tp n p → sI S 72 9 = nI la → sI S 72 12 = nI N → sI S 72 10 = nI deep → N ≤ p → deep ≤ 6 → 8 * (n - p) + rk < g → ab_C G (12 * (6 - deep) + 8 + 2 * rk) M [.ref 72] (sw S) (qOut S tp n N deep p (pS tp n la g m deep p))
theorem k_readTerm {G : ab_G} {tp : Nat → Nat} {n la f : Nat} (hla : la < 2) (hA : ∀ g, g ≤ f → KM G tp n la M_re_readAtom 0 1 g) : KM G tp n la M_re_readTerm 1 2 (f + 1) := by
  intro S N deep p hL h9 hN h10 hNp hdeep hfu
  have hp := hL.2.2.2.2.2.2.1
  have hn9 := hL.2.2.2.1
  have hk42 := tK_lt tp n p
  have hr42 := tN_lt (tp := tp) hp
  have hgap := tK_gap tp n p
  obtain ⟨ck0, ck1, ck2, ck3, ck4⟩ := ckd_i (tK tp n p) hgap
  have ckl := ckd_lt (tK tp n p)
  refine x_enter [some (.ref 72), none] (by decide) (Nat.le_of_ble_eq_true rfl) rfl (fun v w' h => by obtain ⟨rfl, -⟩ := h; trivial) ?_
  have lp : ∀ g, g ≤ f → ∀ (U : ab_S) (q i : Nat) (Cs : List Nat), qF S U → qLv U tp n q → sI U 77 = appL N (sI S 77) Cs → sI U 72 12 = nI (N + Cs.length) → sI U 72 10 = nI deep → N + Cs.length ≤ q → p ≤ q → Cs.length + p ≤ q → i ≤ q → 8 * (n - q) < g → pS tp n la (f + 1) 1 deep p = pB (pS tp n la g 6 deep q) (fun r d => .inr (r, Cs ++ d)) → ab_Ex G (12 * (6 - deep) + 8 + 4) M_re_readTerm 6 [some (.ref 72), some (.int (nI i))] [] (sw U) (qOut S tp n N deep p (pS tp n la (f + 1) 1 deep p)) := by
    intro g
    induction g with
    | zero => intro _ U q i Cs _ _ _ _ _ _ _ _ _ z; exact absurd z (by omega)
    | succ g ih =>
      intro hgf U q i Cs uF0 uL0 uf0 un0 um0 hCq hpq hCp hiq hfq hsp0
      have hq := uL0.2.2.2.2.2.2.1
      have hq42 := tK_lt tp n q
      have hend : 900 ≤ q → tK tp n q = 24 := fun z => tK_e (Nat.le_trans (by omega) (tS_b tp hq).1)
      have hun : pS tp n la (g + 1) 6 deep q = if 34 ≤ tK tp n q ∧ tK tp n q ≤ 34 then pB (pS tp n la g 0 deep (tE tp n q)) (fun q1 c => pB (pS tp n la g 6 deep q1) (fun r d => .inr (r, c ++ (3002 + (tK tp n q - 34)) :: d))) else .inr (q, []) := rfl
      refine x_iload_n 7 1 (ab_dd tk_re_readTerm 4 rfl) rfl rfl rfl ?_
      refine x_sipush 10 900 (ab_dd tk_re_readTerm 5 rfl) rfl (by decide) (x_topn 900 rfl ?_)
      refine xn_icmp_ge 13 42 (ab_dd tk_re_readTerm 6 rfl) rfl (by decide) (by omega) (by omega) (fun h10 => ?_) (fun h10 => ?_)
      · have h24 := hend (by omega)
        have hsp : pS tp n la (f + 1) 1 deep p = .inr (q, Cs) := by
          rw [hsp0, hun, if_neg (by omega)]
          show Sum.inr (q, Cs ++ []) = _
          rw [List.append_nil]
        exact x_vret (ab_dd tk_re_readTerm 20 rfl) ⟨rfl, _, rfl, uF0, by rw [hsp]; exact ⟨uL0, uf0, un0, um0⟩⟩
      · refine x_aload_n 14 0 (ab_dd tk_re_readTerm 7 rfl) rfl rfl rfl ?_
        refine x_bipush 16 42 (ab_dd tk_re_readTerm 8 rfl) rfl (by decide) (x_topn 42 rfl ?_)
        refine t_callV 19 M_re_isSign 0 1 [_] (ab_dd tk_re_readTerm 9 rfl) rfl (by first | decide | omega) K_re_isSign V_re_isSign.1 V_re_isSign.2 L_re_161 rfl (Nat.le_of_ble_eq_true rfl) (by decide) (Nat.lt_of_lt_of_le (by decide) uL0.1.1) (uL0.1.2.1 22 (by decide)) rfl (LA_sg uL0 4 42 (by decide) (by decide)) (fun v1 w1 h1 => ?_)
        obtain ⟨rfl, rfl⟩ := h1
        refine xb_if_eq 22 42 (ab_dd tk_re_readTerm 10 rfl) rfl (by decide) (fun h19 => ?_) (fun h19 => ?_)
        · have hsp : pS tp n la (f + 1) 1 deep p = .inr (q, Cs) := by
            rw [hsp0, hun, if_neg (by omega)]
            show Sum.inr (q, Cs ++ []) = _
            rw [List.append_nil]
          exact x_vret (ab_dd tk_re_readTerm 20 rfl) ⟨rfl, _, rfl, uF0, by rw [hsp]; exact ⟨uL0, uf0, un0, um0⟩⟩
        · refine x_aload_n 23 0 (ab_dd tk_re_readTerm 11 rfl) rfl rfl rfl ?_
          refine t_callV 26 M_re_advance 5 0 [] (ab_dd tk_re_readTerm 12 rfl) rfl (by first | decide | omega) K_re_advance V_re_advance.1 V_re_advance.2 L_re_64 rfl (Nat.le_of_ble_eq_true rfl) (by decide) (Nat.lt_of_lt_of_le (by decide) uL0.1.1) (uL0.1.2.1 22 (by decide)) rfl (LA_adv uL0 (by omega)) (fun v1 w1 h1 => ?_)
          obtain ⟨rfl, U1, rfl, uG1, uL1⟩ := h1
          have ht1 := tE_g uL0.2.2.2.2.2.2.1 (show tK tp n q ≠ 24 by omega)
          refine x_aload_n 27 0 (ab_dd tk_re_readTerm 13 rfl) rfl rfl rfl ?_
          refine t_callV 30 M_re_readAtom (12 * (6 - deep) + 8 + 2) 0 [] (ab_dd tk_re_readTerm 14 rfl) rfl (by omega) K_re_readAtom V_re_readAtom.1 V_re_readAtom.2 L_re_168 rfl (Nat.le_of_ble_eq_true rfl) (by decide) (Nat.lt_of_lt_of_le (by decide) uL1.1.1) (uL1.1.2.1 22 (by decide)) rfl (hA g (by omega) _ (N + Cs.length) deep (tE tp n q) uL1 (by exact ((uF0.tr uG1.F).2 9 (by omega)).trans h9) ((uG1.2 12 (by omega)).trans un0) ((uG1.2 10 (by omega)).trans um0) (by first | omega | (simp only [List.length_append, List.length_cons, List.length_nil]; omega)) (by omega) (by omega)) (fun v1 w1 h1 => ?_)
          obtain ⟨rfl, U2, rfl, uF2, uO2⟩ := h1
          rcases hX2 : pS tp n la g 0 deep (tE tp n q) with e2 | ⟨q2, c2⟩
          · rw [hX2] at uO2
            obtain ⟨uD2, uB2⟩ := uO2
            refine x_aload_n 31 0 (ab_dd tk_re_readTerm 15 rfl) rfl rfl rfl ?_
            refine x_bipush 33 (-12) (ab_dd tk_re_readTerm 16 rfl) rfl (by decide) ?_
            refine t_callV 36 M_re_put 0 1 [_] (ab_dd tk_re_readTerm 17 rfl) rfl (by first | decide | omega) K_re_put V_re_put.1 V_re_put.2 L_re_165 rfl (Nat.le_of_ble_eq_true rfl) (by decide) (Nat.lt_of_lt_of_le (by decide) uD2.1.1) (uD2.1.2.1 22 (by decide)) rfl (DA_put uD2 _) (fun v1 w1 h1 => ?_)
            obtain ⟨rfl, U3, rfl, uF3, uD3, uB3⟩ := h1
            refine xn_iinc 39 1 (fun y => [some (.ref 72), some (.int y)]) (i + 1) (ab_dd tk_re_readTerm 18 rfl) rfl (by decide) rfl (fun _ => rfl) (iinc_p 1) ?_
            refine x_goto 6 (ab_dd tk_re_readTerm 19 rfl) (by decide) ?_
            refine x_iload_n 7 1 (ab_dd tk_re_readTerm 4 rfl) rfl rfl rfl ?_
            refine x_sipush 10 900 (ab_dd tk_re_readTerm 5 rfl) rfl (by decide) (x_topn 900 rfl ?_)
            refine xn_icmp_ge 13 42 (ab_dd tk_re_readTerm 6 rfl) rfl (by decide) (by omega) (by omega) (fun h10 => ?_) (fun h10 => ?_)
            · have hsp : pS tp n la (f + 1) 1 deep p = .inl e2 := by
                rw [hsp0, hun, if_pos (by omega), hX2]
                rfl
              exact x_vret (ab_dd tk_re_readTerm 20 rfl) ⟨rfl, _, rfl, (((uF0.tr uG1.F).tr uF2).tr uF3), by rw [hsp]; exact ⟨uD3, (uB3 _ uB2).up (by first | omega | (simp only [List.length_append, List.length_cons, List.length_nil]; omega))⟩⟩
            · refine x_aload_n 14 0 (ab_dd tk_re_readTerm 7 rfl) rfl rfl rfl ?_
              refine x_bipush 16 42 (ab_dd tk_re_readTerm 8 rfl) rfl (by decide) (x_topn 42 rfl ?_)
              refine t_callV 19 M_re_isSign 0 1 [_] (ab_dd tk_re_readTerm 9 rfl) rfl (by first | decide | omega) K_re_isSign V_re_isSign.1 V_re_isSign.2 L_re_161 rfl (Nat.le_of_ble_eq_true rfl) (by decide) (Nat.lt_of_lt_of_le (by decide) uD3.1.1) (uD3.1.2.1 22 (by decide)) rfl (DA_isSign uD3 _) (fun v1 w1 h1 => ?_)
              obtain ⟨rfl, rfl⟩ := h1
              refine x_if_eq_t 42 (ab_dd tk_re_readTerm 10 rfl) (by decide) (by decide) ?_
              have hsp : pS tp n la (f + 1) 1 deep p = .inl e2 := by
                rw [hsp0, hun, if_pos (by omega), hX2]
                rfl
              exact x_vret (ab_dd tk_re_readTerm 20 rfl) ⟨rfl, _, rfl, (((uF0.tr uG1.F).tr uF2).tr uF3), by rw [hsp]; exact ⟨uD3, (uB3 _ uB2).up (by first | omega | (simp only [List.length_append, List.length_cons, List.length_nil]; omega))⟩⟩
          · rw [hX2] at uO2
            obtain ⟨uL2, uC2, uN2, uM2⟩ := uO2
            have hg2 := pS_len _ _ _ _ _ _ uL1.2.2.2.2.2.2.1 hX2
            obtain ⟨hga2, hgb2, hgc2, hgd2⟩ := hg2
            have hge2 := hgd2 (by decide)
            have uf2 : sI U2 77 = appL N (sI S 77) (Cs ++ c2) := by rw [uC2, (uG1.la.trans uf0), appL_app]
            have un2 : sI U2 72 12 = nI (N + (Cs ++ c2).length) := uN2.trans (congrArg nI (by simp only [List.length_append, List.length_cons, List.length_nil] <;> omega))
            have uL2 : qLv U2 tp n q2 := uL2
            refine x_aload_n 31 0 (ab_dd tk_re_readTerm 15 rfl) rfl rfl rfl ?_
            refine x_bipush 33 (-12) (ab_dd tk_re_readTerm 16 rfl) rfl (by decide) ?_
            refine t_callV 36 M_re_put 0 1 [_] (ab_dd tk_re_readTerm 17 rfl) rfl (by first | decide | omega) K_re_put V_re_put.1 V_re_put.2 L_re_165 rfl (Nat.le_of_ble_eq_true rfl) (by decide) (Nat.lt_of_lt_of_le (by decide) uL2.1.1) (uL2.1.2.1 22 (by decide)) rfl (LA_put uL2 un2 (by first | omega | (simp only [List.length_append, List.length_cons, List.length_nil]; omega)) 3002 _ (by decide)) (fun v1 w1 h1 => ?_)
            obtain ⟨rfl, U4, rfl, uF4, uL4, uC4, uN4, uM4⟩ := h1
            have uf4 : sI U4 77 = appL N (sI S 77) ((Cs ++ c2) ++ [3002]) := by rw [uC4, uf2, appL_app]
            have un4 : sI U4 72 12 = nI (N + ((Cs ++ c2) ++ [3002]).length) := uN4.trans (congrArg nI (by simp only [List.length_append, List.length_cons, List.length_nil] <;> omega))
            refine xn_iinc 39 1 (fun y => [some (.ref 72), some (.int y)]) (i + 1) (ab_dd tk_re_readTerm 18 rfl) rfl (by decide) rfl (fun _ => rfl) (iinc_p 1) ?_
            refine x_goto 6 (ab_dd tk_re_readTerm 19 rfl) (by decide) ?_
            rw [show 3002 + (tK tp n q - 34) = 3002 by omega] at hun
            exact ih (by omega) _ _ _ _ (((uF0.tr uG1.F).tr uF2).tr uF4) uL4 uf4 un4 (uM4.trans uM2) (by first | omega | (simp only [List.length_append, List.length_cons, List.length_nil]; omega)) (by omega) (by first | omega | (simp only [List.length_append, List.length_cons, List.length_nil]; omega)) (by omega) (by omega) (by rw [hsp0, hun, if_pos (by omega), hX2]; exact pB_as _ _ _ _)
  refine x_aload_n 1 0 (ab_dd tk_re_readTerm 0 rfl) rfl rfl rfl ?_
  refine t_callV 4 M_re_readAtom (12 * (6 - deep) + 8 + 2) 0 [] (ab_dd tk_re_readTerm 1 rfl) rfl (by omega) K_re_readAtom V_re_readAtom.1 V_re_readAtom.2 L_re_168 rfl (Nat.le_of_ble_eq_true rfl) (by decide) (Nat.lt_of_lt_of_le (by decide) hL.1.1) (hL.1.2.1 22 (by decide)) rfl (hA f (Nat.le_refl _) _ N deep p hL (by exact (qF.rf.2 9 (by omega)).trans h9) hN h10 (by first | omega | (simp only [List.length_append, List.length_cons, List.length_nil]; omega)) (by omega) (by omega)) (fun v1 w1 h1 => ?_)
  obtain ⟨rfl, U1, rfl, uF1, uO1⟩ := h1
  rcases hX1 : pS tp n la f 0 deep p with e1 | ⟨q1, c1⟩
  · rw [hX1] at uO1
    obtain ⟨uD1, uB1⟩ := uO1
    refine x_iconst 5 0 (ab_dd tk_re_readTerm 2 rfl) rfl (by decide) (x_topn 0 rfl ?_)
    refine x_istore_n 6 [some (.ref 72), some (.int (nI 0))] 1 (ab_dd tk_re_readTerm 3 rfl) rfl rfl (by decide) rfl ?_
    refine x_iload_n 7 1 (ab_dd tk_re_readTerm 4 rfl) rfl rfl rfl ?_
    refine x_sipush 10 900 (ab_dd tk_re_readTerm 5 rfl) rfl (by decide) (x_topn 900 rfl ?_)
    refine x_icmp_ge_f 13 (ab_dd tk_re_readTerm 6 rfl) rfl 42 (by decide) (fun z => absurd ((nI_leI (a := 900) (b := 0) (by omega) (by omega)).mp z) (show ¬ (900 ≤ 0) by decide)) ?_
    refine x_aload_n 14 0 (ab_dd tk_re_readTerm 7 rfl) rfl rfl rfl ?_
    refine x_bipush 16 42 (ab_dd tk_re_readTerm 8 rfl) rfl (by decide) (x_topn 42 rfl ?_)
    refine t_callV 19 M_re_isSign 0 1 [_] (ab_dd tk_re_readTerm 9 rfl) rfl (by first | decide | omega) K_re_isSign V_re_isSign.1 V_re_isSign.2 L_re_161 rfl (Nat.le_of_ble_eq_true rfl) (by decide) (Nat.lt_of_lt_of_le (by decide) uD1.1.1) (uD1.1.2.1 22 (by decide)) rfl (DA_isSign uD1 _) (fun v1 w1 h1 => ?_)
    obtain ⟨rfl, rfl⟩ := h1
    refine x_if_eq_t 42 (ab_dd tk_re_readTerm 10 rfl) (by decide) (by decide) ?_
    have hsp : pS tp n la (f + 1) 1 deep p = .inl e1 := by
      show qSq _ 0 6 deep p = _
      unfold qSq
      rw [hX1]
      rfl
    exact x_vret (ab_dd tk_re_readTerm 20 rfl) ⟨rfl, _, rfl, (qF.rf.tr uF1), by rw [hsp]; exact ⟨uD1, uB1.up (by first | omega | (simp only [List.length_append, List.length_cons, List.length_nil]; omega))⟩⟩
  · rw [hX1] at uO1
    obtain ⟨uL1, uC1, uN1, uM1⟩ := uO1
    have hg1 := pS_len _ _ _ _ _ _ hL.2.2.2.2.2.2.1 hX1
    obtain ⟨hga1, hgb1, hgc1, hgd1⟩ := hg1
    have hge1 := hgd1 (by decide)
    have uf1 : sI U1 77 = appL N (sI S 77) c1 := uC1.trans (congrArg (fun z => appL N z c1) rfl)
    have un1 : sI U1 72 12 = nI (N + c1.length) := uN1.trans (congrArg nI (by simp only [List.length_append, List.length_cons, List.length_nil] <;> omega))
    have uL1 : qLv U1 tp n q1 := uL1
    refine x_iconst 5 0 (ab_dd tk_re_readTerm 2 rfl) rfl (by decide) (x_topn 0 rfl ?_)
    refine x_istore_n 6 [some (.ref 72), some (.int (nI 0))] 1 (ab_dd tk_re_readTerm 3 rfl) rfl rfl (by decide) rfl ?_
    exact lp f (Nat.le_refl _) _ _ _ _ (qF.rf.tr uF1) uL1 uf1 un1 uM1 (by first | omega | (simp only [List.length_append, List.length_cons, List.length_nil]; omega)) (by omega) (by first | omega | (simp only [List.length_append, List.length_cons, List.length_nil]; omega)) (by omega) (by omega) (by show qSq _ 0 6 deep p = _; unfold qSq; rw [hX1]; rfl)
theorem k_readSum {G : ab_G} {tp : Nat → Nat} {n la f : Nat} (hla : la < 2) (hA : ∀ g, g ≤ f → KM G tp n la M_re_readTerm 1 2 g) : KM G tp n la M_re_readSum 2 3 (f + 1) := by
  intro S N deep p hL h9 hN h10 hNp hdeep hfu
  have hp := hL.2.2.2.2.2.2.1
  have hn9 := hL.2.2.2.1
  have hk42 := tK_lt tp n p
  have hr42 := tN_lt (tp := tp) hp
  have hgap := tK_gap tp n p
  obtain ⟨ck0, ck1, ck2, ck3, ck4⟩ := ckd_i (tK tp n p) hgap
  have ckl := ckd_lt (tK tp n p)
  refine x_enter [some (.ref 72), none, none] (by decide) (Nat.le_of_ble_eq_true rfl) rfl (fun v w' h => by obtain ⟨rfl, -⟩ := h; trivial) ?_
  have lp : ∀ g, g ≤ f → ∀ (U : ab_S) (q i : Nat) (Cs : List Nat) (y : Option Value), qF S U → qLv U tp n q → sI U 77 = appL N (sI S 77) Cs → sI U 72 12 = nI (N + Cs.length) → sI U 72 10 = nI deep → N + Cs.length ≤ q → p ≤ q → Cs.length + p ≤ q → i ≤ q → 8 * (n - q) < g → pS tp n la (f + 1) 2 deep p = pB (pS tp n la g 7 deep q) (fun r d => .inr (r, Cs ++ d)) → ab_Ex G (12 * (6 - deep) + 8 + 6) M_re_readSum 6 [some (.ref 72), some (.int (nI i)), y] [] (sw U) (qOut S tp n N deep p (pS tp n la (f + 1) 2 deep p)) := by
    intro g
    induction g with
    | zero => intro _ U q i Cs _ _ _ _ _ _ _ _ _ _ z; exact absurd z (by omega)
    | succ g ih =>
      intro hgf U q i Cs y uF0 uL0 uf0 un0 um0 hCq hpq hCp hiq hfq hsp0
      have hq := uL0.2.2.2.2.2.2.1
      have hq42 := tK_lt tp n q
      have hend : 900 ≤ q → tK tp n q = 24 := fun z => tK_e (Nat.le_trans (by omega) (tS_b tp hq).1)
      have hun : pS tp n la (g + 1) 7 deep q = if 32 ≤ tK tp n q ∧ tK tp n q ≤ 33 then pB (pS tp n la g 1 deep (tE tp n q)) (fun q1 c => pB (pS tp n la g 7 deep q1) (fun r d => .inr (r, c ++ (3000 + (tK tp n q - 32)) :: d))) else .inr (q, []) := rfl
      refine x_forget 2 ?_
      refine x_iload_n 7 1 (ab_dd tk_re_readSum 4 rfl) rfl rfl rfl ?_
      refine x_sipush 10 900 (ab_dd tk_re_readSum 5 rfl) rfl (by decide) (x_topn 900 rfl ?_)
      refine xn_icmp_ge 13 67 (ab_dd tk_re_readSum 6 rfl) rfl (by decide) (by omega) (by omega) (fun h10 => ?_) (fun h10 => ?_)
      · have h24 := hend (by omega)
        have hsp : pS tp n la (f + 1) 2 deep p = .inr (q, Cs) := by
          rw [hsp0, hun, if_neg (by omega)]
          show Sum.inr (q, Cs ++ []) = _
          rw [List.append_nil]
        exact x_vret (ab_dd tk_re_readSum 32 rfl) ⟨rfl, _, rfl, uF0, by rw [hsp]; exact ⟨uL0, uf0, un0, um0⟩⟩
      · refine x_aload_n 14 0 (ab_dd tk_re_readSum 7 rfl) rfl rfl rfl ?_
        refine x_bipush 16 43 (ab_dd tk_re_readSum 8 rfl) rfl (by decide) (x_topn 43 rfl ?_)
        refine t_callV 19 M_re_isSign 0 1 [_] (ab_dd tk_re_readSum 9 rfl) rfl (by first | decide | omega) K_re_isSign V_re_isSign.1 V_re_isSign.2 L_re_161 rfl (Nat.le_of_ble_eq_true rfl) (by decide) (Nat.lt_of_lt_of_le (by decide) uL0.1.1) (uL0.1.2.1 22 (by decide)) rfl (LA_sg uL0 2 43 (by decide) (by decide)) (fun v1 w1 h1 => ?_)
        obtain ⟨rfl, rfl⟩ := h1
        refine xb_if_ne 22 31 (ab_dd tk_re_readSum 10 rfl) rfl (by decide) (fun h19 => ?_) (fun h19 => ?_)
        · refine x_aload_n 32 0 (ab_dd tk_re_readSum 15 rfl) rfl rfl rfl ?_
          refine x_bipush 34 43 (ab_dd tk_re_readSum 16 rfl) rfl (by decide) (x_topn 43 rfl ?_)
          refine t_callV 37 M_re_isSign 0 1 [_] (ab_dd tk_re_readSum 17 rfl) rfl (by first | decide | omega) K_re_isSign V_re_isSign.1 V_re_isSign.2 L_re_161 rfl (Nat.le_of_ble_eq_true rfl) (by decide) (Nat.lt_of_lt_of_le (by decide) uL0.1.1) (uL0.1.2.1 22 (by decide)) rfl (LA_sg uL0 2 43 (by decide) (by decide)) (fun v1 w1 h1 => ?_)
          obtain ⟨rfl, rfl⟩ := h1
          refine x_if_eq_f 40 (ab_dd tk_re_readSum 18 rfl) rfl 45 (by decide) (fun z => by rw [if_pos h19] at z; exact absurd z (by decide)) ?_
          refine x_bipush 42 (-10) (ab_dd tk_re_readSum 19 rfl) rfl (by decide) ?_
          refine x_goto 47 (ab_dd tk_re_readSum 20 rfl) (by decide) ?_
          refine x_istore_n 48 [some (.ref 72), some (.int (nI i)), some (.int ((-10)))] 2 (ab_dd tk_re_readSum 22 rfl) rfl rfl (by decide) rfl ?_
          refine x_aload_n 49 0 (ab_dd tk_re_readSum 23 rfl) rfl rfl rfl ?_
          refine t_callV 52 M_re_advance 5 0 [] (ab_dd tk_re_readSum 24 rfl) rfl (by first | decide | omega) K_re_advance V_re_advance.1 V_re_advance.2 L_re_64 rfl (Nat.le_of_ble_eq_true rfl) (by decide) (Nat.lt_of_lt_of_le (by decide) uL0.1.1) (uL0.1.2.1 22 (by decide)) rfl (LA_adv uL0 (by omega)) (fun v1 w1 h1 => ?_)
          obtain ⟨rfl, U1, rfl, uG1, uL1⟩ := h1
          have ht1 := tE_g uL0.2.2.2.2.2.2.1 (show tK tp n q ≠ 24 by omega)
          refine x_aload_n 53 0 (ab_dd tk_re_readSum 25 rfl) rfl rfl rfl ?_
          refine t_callV 56 M_re_readTerm (12 * (6 - deep) + 8 + 4) 0 [] (ab_dd tk_re_readSum 26 rfl) rfl (by omega) K_re_readTerm V_re_readTerm.1 V_re_readTerm.2 L_re_158 rfl (Nat.le_of_ble_eq_true rfl) (by decide) (Nat.lt_of_lt_of_le (by decide) uL1.1.1) (uL1.1.2.1 22 (by decide)) rfl (hA g (by omega) _ (N + Cs.length) deep (tE tp n q) uL1 (by exact ((uF0.tr uG1.F).2 9 (by omega)).trans h9) ((uG1.2 12 (by omega)).trans un0) ((uG1.2 10 (by omega)).trans um0) (by first | omega | (simp only [List.length_append, List.length_cons, List.length_nil]; omega)) (by omega) (by omega)) (fun v1 w1 h1 => ?_)
          obtain ⟨rfl, U2, rfl, uF2, uO2⟩ := h1
          rcases hX2 : pS tp n la g 1 deep (tE tp n q) with e2 | ⟨q2, c2⟩
          · rw [hX2] at uO2
            obtain ⟨uD2, uB2⟩ := uO2
            refine x_aload_n 57 0 (ab_dd tk_re_readSum 27 rfl) rfl rfl rfl ?_
            refine x_iload_n 58 2 (ab_dd tk_re_readSum 28 rfl) rfl rfl rfl ?_
            refine t_callV 61 M_re_put 0 1 [_] (ab_dd tk_re_readSum 29 rfl) rfl (by first | decide | omega) K_re_put V_re_put.1 V_re_put.2 L_re_165 rfl (Nat.le_of_ble_eq_true rfl) (by decide) (Nat.lt_of_lt_of_le (by decide) uD2.1.1) (uD2.1.2.1 22 (by decide)) rfl (DA_put uD2 _) (fun v1 w1 h1 => ?_)
            obtain ⟨rfl, U3, rfl, uF3, uD3, uB3⟩ := h1
            refine xn_iinc 64 1 (fun y => [some (.ref 72), some (.int y), some (.int ((-10)))]) (i + 1) (ab_dd tk_re_readSum 30 rfl) rfl (by decide) rfl (fun _ => rfl) (iinc_p 1) ?_
            refine x_goto 6 (ab_dd tk_re_readSum 31 rfl) (by decide) ?_
            refine x_iload_n 7 1 (ab_dd tk_re_readSum 4 rfl) rfl rfl rfl ?_
            refine x_sipush 10 900 (ab_dd tk_re_readSum 5 rfl) rfl (by decide) (x_topn 900 rfl ?_)
            refine xn_icmp_ge 13 67 (ab_dd tk_re_readSum 6 rfl) rfl (by decide) (by omega) (by omega) (fun h10 => ?_) (fun h10 => ?_)
            · have hsp : pS tp n la (f + 1) 2 deep p = .inl e2 := by
                rw [hsp0, hun, if_pos (by omega), hX2]
                rfl
              exact x_vret (ab_dd tk_re_readSum 32 rfl) ⟨rfl, _, rfl, (((uF0.tr uG1.F).tr uF2).tr uF3), by rw [hsp]; exact ⟨uD3, (uB3 _ uB2).up (by first | omega | (simp only [List.length_append, List.length_cons, List.length_nil]; omega))⟩⟩
            · refine x_aload_n 14 0 (ab_dd tk_re_readSum 7 rfl) rfl rfl rfl ?_
              refine x_bipush 16 43 (ab_dd tk_re_readSum 8 rfl) rfl (by decide) (x_topn 43 rfl ?_)
              refine t_callV 19 M_re_isSign 0 1 [_] (ab_dd tk_re_readSum 9 rfl) rfl (by first | decide | omega) K_re_isSign V_re_isSign.1 V_re_isSign.2 L_re_161 rfl (Nat.le_of_ble_eq_true rfl) (by decide) (Nat.lt_of_lt_of_le (by decide) uD3.1.1) (uD3.1.2.1 22 (by decide)) rfl (DA_isSign uD3 _) (fun v1 w1 h1 => ?_)
              obtain ⟨rfl, rfl⟩ := h1
              refine x_if_ne_f 22 (ab_dd tk_re_readSum 10 rfl) rfl 31 (by decide) (by decide) ?_
              refine x_aload_n 23 0 (ab_dd tk_re_readSum 11 rfl) rfl rfl rfl ?_
              refine x_bipush 25 45 (ab_dd tk_re_readSum 12 rfl) rfl (by decide) (x_topn 45 rfl ?_)
              refine t_callV 28 M_re_isSign 0 1 [_] (ab_dd tk_re_readSum 13 rfl) rfl (by first | decide | omega) K_re_isSign V_re_isSign.1 V_re_isSign.2 L_re_161 rfl (Nat.le_of_ble_eq_true rfl) (by decide) (Nat.lt_of_lt_of_le (by decide) uD3.1.1) (uD3.1.2.1 22 (by decide)) rfl (DA_isSign uD3 _) (fun v1 w1 h1 => ?_)
              obtain ⟨rfl, rfl⟩ := h1
              refine x_if_eq_t 67 (ab_dd tk_re_readSum 14 rfl) (by decide) (by decide) ?_
              have hsp : pS tp n la (f + 1) 2 deep p = .inl e2 := by
                rw [hsp0, hun, if_pos (by omega), hX2]
                rfl
              exact x_vret (ab_dd tk_re_readSum 32 rfl) ⟨rfl, _, rfl, (((uF0.tr uG1.F).tr uF2).tr uF3), by rw [hsp]; exact ⟨uD3, (uB3 _ uB2).up (by first | omega | (simp only [List.length_append, List.length_cons, List.length_nil]; omega))⟩⟩
          · rw [hX2] at uO2
            obtain ⟨uL2, uC2, uN2, uM2⟩ := uO2
            have hg2 := pS_len _ _ _ _ _ _ uL1.2.2.2.2.2.2.1 hX2
            obtain ⟨hga2, hgb2, hgc2, hgd2⟩ := hg2
            have hge2 := hgd2 (by decide)
            have uf2 : sI U2 77 = appL N (sI S 77) (Cs ++ c2) := by rw [uC2, (uG1.la.trans uf0), appL_app]
            have un2 : sI U2 72 12 = nI (N + (Cs ++ c2).length) := uN2.trans (congrArg nI (by simp only [List.length_append, List.length_cons, List.length_nil] <;> omega))
            have uL2 : qLv U2 tp n q2 := uL2
            refine x_aload_n 57 0 (ab_dd tk_re_readSum 27 rfl) rfl rfl rfl ?_
            refine x_iload_n 58 2 (ab_dd tk_re_readSum 28 rfl) rfl rfl rfl ?_
            refine t_callV 61 M_re_put 0 1 [_] (ab_dd tk_re_readSum 29 rfl) rfl (by first | decide | omega) K_re_put V_re_put.1 V_re_put.2 L_re_165 rfl (Nat.le_of_ble_eq_true rfl) (by decide) (Nat.lt_of_lt_of_le (by decide) uL2.1.1) (uL2.1.2.1 22 (by decide)) rfl (LA_put uL2 un2 (by first | omega | (simp only [List.length_append, List.length_cons, List.length_nil]; omega)) 3000 _ (by decide)) (fun v1 w1 h1 => ?_)
            obtain ⟨rfl, U4, rfl, uF4, uL4, uC4, uN4, uM4⟩ := h1
            have uf4 : sI U4 77 = appL N (sI S 77) ((Cs ++ c2) ++ [3000]) := by rw [uC4, uf2, appL_app]
            have un4 : sI U4 72 12 = nI (N + ((Cs ++ c2) ++ [3000]).length) := uN4.trans (congrArg nI (by simp only [List.length_append, List.length_cons, List.length_nil] <;> omega))
            refine xn_iinc 64 1 (fun y => [some (.ref 72), some (.int y), some (.int ((-10)))]) (i + 1) (ab_dd tk_re_readSum 30 rfl) rfl (by decide) rfl (fun _ => rfl) (iinc_p 1) ?_
            refine x_goto 6 (ab_dd tk_re_readSum 31 rfl) (by decide) ?_
            rw [show 3000 + (tK tp n q - 32) = 3000 by omega] at hun
            exact ih (by omega) _ _ _ _ _ (((uF0.tr uG1.F).tr uF2).tr uF4) uL4 uf4 un4 (uM4.trans uM2) (by first | omega | (simp only [List.length_append, List.length_cons, List.length_nil]; omega)) (by omega) (by first | omega | (simp only [List.length_append, List.length_cons, List.length_nil]; omega)) (by omega) (by omega) (by rw [hsp0, hun, if_pos (by omega), hX2]; exact pB_as _ _ _ _)
        · refine x_aload_n 23 0 (ab_dd tk_re_readSum 11 rfl) rfl rfl rfl ?_
          refine x_bipush 25 45 (ab_dd tk_re_readSum 12 rfl) rfl (by decide) (x_topn 45 rfl ?_)
          refine t_callV 28 M_re_isSign 0 1 [_] (ab_dd tk_re_readSum 13 rfl) rfl (by first | decide | omega) K_re_isSign V_re_isSign.1 V_re_isSign.2 L_re_161 rfl (Nat.le_of_ble_eq_true rfl) (by decide) (Nat.lt_of_lt_of_le (by decide) uL0.1.1) (uL0.1.2.1 22 (by decide)) rfl (LA_sg uL0 3 45 (by decide) (by decide)) (fun v1 w1 h1 => ?_)
          obtain ⟨rfl, rfl⟩ := h1
          refine xb_if_eq 31 67 (ab_dd tk_re_readSum 14 rfl) rfl (by decide) (fun h28 => ?_) (fun h28 => ?_)
          · have hsp : pS tp n la (f + 1) 2 deep p = .inr (q, Cs) := by
              rw [hsp0, hun, if_neg (by omega)]
              show Sum.inr (q, Cs ++ []) = _
              rw [List.append_nil]
            exact x_vret (ab_dd tk_re_readSum 32 rfl) ⟨rfl, _, rfl, uF0, by rw [hsp]; exact ⟨uL0, uf0, un0, um0⟩⟩
          · refine x_aload_n 32 0 (ab_dd tk_re_readSum 15 rfl) rfl rfl rfl ?_
            refine x_bipush 34 43 (ab_dd tk_re_readSum 16 rfl) rfl (by decide) (x_topn 43 rfl ?_)
            refine t_callV 37 M_re_isSign 0 1 [_] (ab_dd tk_re_readSum 17 rfl) rfl (by first | decide | omega) K_re_isSign V_re_isSign.1 V_re_isSign.2 L_re_161 rfl (Nat.le_of_ble_eq_true rfl) (by decide) (Nat.lt_of_lt_of_le (by decide) uL0.1.1) (uL0.1.2.1 22 (by decide)) rfl (LA_sg uL0 2 43 (by decide) (by decide)) (fun v1 w1 h1 => ?_)
            obtain ⟨rfl, rfl⟩ := h1
            refine x_if_eq_t 45 (ab_dd tk_re_readSum 18 rfl) (by decide) (if_neg h19) ?_
            refine x_bipush 47 (-11) (ab_dd tk_re_readSum 21 rfl) rfl (by decide) ?_
            refine x_istore_n 48 [some (.ref 72), some (.int (nI i)), some (.int ((-11)))] 2 (ab_dd tk_re_readSum 22 rfl) rfl rfl (by decide) rfl ?_
            refine x_aload_n 49 0 (ab_dd tk_re_readSum 23 rfl) rfl rfl rfl ?_
            refine t_callV 52 M_re_advance 5 0 [] (ab_dd tk_re_readSum 24 rfl) rfl (by first | decide | omega) K_re_advance V_re_advance.1 V_re_advance.2 L_re_64 rfl (Nat.le_of_ble_eq_true rfl) (by decide) (Nat.lt_of_lt_of_le (by decide) uL0.1.1) (uL0.1.2.1 22 (by decide)) rfl (LA_adv uL0 (by omega)) (fun v1 w1 h1 => ?_)
            obtain ⟨rfl, U5, rfl, uG5, uL5⟩ := h1
            have ht5 := tE_g uL0.2.2.2.2.2.2.1 (show tK tp n q ≠ 24 by omega)
            refine x_aload_n 53 0 (ab_dd tk_re_readSum 25 rfl) rfl rfl rfl ?_
            refine t_callV 56 M_re_readTerm (12 * (6 - deep) + 8 + 4) 0 [] (ab_dd tk_re_readSum 26 rfl) rfl (by omega) K_re_readTerm V_re_readTerm.1 V_re_readTerm.2 L_re_158 rfl (Nat.le_of_ble_eq_true rfl) (by decide) (Nat.lt_of_lt_of_le (by decide) uL5.1.1) (uL5.1.2.1 22 (by decide)) rfl (hA g (by omega) _ (N + Cs.length) deep (tE tp n q) uL5 (by exact ((uF0.tr uG5.F).2 9 (by omega)).trans h9) ((uG5.2 12 (by omega)).trans un0) ((uG5.2 10 (by omega)).trans um0) (by first | omega | (simp only [List.length_append, List.length_cons, List.length_nil]; omega)) (by omega) (by omega)) (fun v1 w1 h1 => ?_)
            obtain ⟨rfl, U6, rfl, uF6, uO6⟩ := h1
            rcases hX6 : pS tp n la g 1 deep (tE tp n q) with e6 | ⟨q6, c6⟩
            · rw [hX6] at uO6
              obtain ⟨uD6, uB6⟩ := uO6
              refine x_aload_n 57 0 (ab_dd tk_re_readSum 27 rfl) rfl rfl rfl ?_
              refine x_iload_n 58 2 (ab_dd tk_re_readSum 28 rfl) rfl rfl rfl ?_
              refine t_callV 61 M_re_put 0 1 [_] (ab_dd tk_re_readSum 29 rfl) rfl (by first | decide | omega) K_re_put V_re_put.1 V_re_put.2 L_re_165 rfl (Nat.le_of_ble_eq_true rfl) (by decide) (Nat.lt_of_lt_of_le (by decide) uD6.1.1) (uD6.1.2.1 22 (by decide)) rfl (DA_put uD6 _) (fun v1 w1 h1 => ?_)
              obtain ⟨rfl, U7, rfl, uF7, uD7, uB7⟩ := h1
              refine xn_iinc 64 1 (fun y => [some (.ref 72), some (.int y), some (.int ((-11)))]) (i + 1) (ab_dd tk_re_readSum 30 rfl) rfl (by decide) rfl (fun _ => rfl) (iinc_p 1) ?_
              refine x_goto 6 (ab_dd tk_re_readSum 31 rfl) (by decide) ?_
              refine x_iload_n 7 1 (ab_dd tk_re_readSum 4 rfl) rfl rfl rfl ?_
              refine x_sipush 10 900 (ab_dd tk_re_readSum 5 rfl) rfl (by decide) (x_topn 900 rfl ?_)
              refine xn_icmp_ge 13 67 (ab_dd tk_re_readSum 6 rfl) rfl (by decide) (by omega) (by omega) (fun h10 => ?_) (fun h10 => ?_)
              · have hsp : pS tp n la (f + 1) 2 deep p = .inl e6 := by
                  rw [hsp0, hun, if_pos (by omega), hX6]
                  rfl
                exact x_vret (ab_dd tk_re_readSum 32 rfl) ⟨rfl, _, rfl, (((uF0.tr uG5.F).tr uF6).tr uF7), by rw [hsp]; exact ⟨uD7, (uB7 _ uB6).up (by first | omega | (simp only [List.length_append, List.length_cons, List.length_nil]; omega))⟩⟩
              · refine x_aload_n 14 0 (ab_dd tk_re_readSum 7 rfl) rfl rfl rfl ?_
                refine x_bipush 16 43 (ab_dd tk_re_readSum 8 rfl) rfl (by decide) (x_topn 43 rfl ?_)
                refine t_callV 19 M_re_isSign 0 1 [_] (ab_dd tk_re_readSum 9 rfl) rfl (by first | decide | omega) K_re_isSign V_re_isSign.1 V_re_isSign.2 L_re_161 rfl (Nat.le_of_ble_eq_true rfl) (by decide) (Nat.lt_of_lt_of_le (by decide) uD7.1.1) (uD7.1.2.1 22 (by decide)) rfl (DA_isSign uD7 _) (fun v1 w1 h1 => ?_)
                obtain ⟨rfl, rfl⟩ := h1
                refine x_if_ne_f 22 (ab_dd tk_re_readSum 10 rfl) rfl 31 (by decide) (by decide) ?_
                refine x_aload_n 23 0 (ab_dd tk_re_readSum 11 rfl) rfl rfl rfl ?_
                refine x_bipush 25 45 (ab_dd tk_re_readSum 12 rfl) rfl (by decide) (x_topn 45 rfl ?_)
                refine t_callV 28 M_re_isSign 0 1 [_] (ab_dd tk_re_readSum 13 rfl) rfl (by first | decide | omega) K_re_isSign V_re_isSign.1 V_re_isSign.2 L_re_161 rfl (Nat.le_of_ble_eq_true rfl) (by decide) (Nat.lt_of_lt_of_le (by decide) uD7.1.1) (uD7.1.2.1 22 (by decide)) rfl (DA_isSign uD7 _) (fun v1 w1 h1 => ?_)
                obtain ⟨rfl, rfl⟩ := h1
                refine x_if_eq_t 67 (ab_dd tk_re_readSum 14 rfl) (by decide) (by decide) ?_
                have hsp : pS tp n la (f + 1) 2 deep p = .inl e6 := by
                  rw [hsp0, hun, if_pos (by omega), hX6]
                  rfl
                exact x_vret (ab_dd tk_re_readSum 32 rfl) ⟨rfl, _, rfl, (((uF0.tr uG5.F).tr uF6).tr uF7), by rw [hsp]; exact ⟨uD7, (uB7 _ uB6).up (by first | omega | (simp only [List.length_append, List.length_cons, List.length_nil]; omega))⟩⟩
            · rw [hX6] at uO6
              obtain ⟨uL6, uC6, uN6, uM6⟩ := uO6
              have hg6 := pS_len _ _ _ _ _ _ uL5.2.2.2.2.2.2.1 hX6
              obtain ⟨hga6, hgb6, hgc6, hgd6⟩ := hg6
              have hge6 := hgd6 (by decide)
              have uf6 : sI U6 77 = appL N (sI S 77) (Cs ++ c6) := by rw [uC6, (uG5.la.trans uf0), appL_app]
              have un6 : sI U6 72 12 = nI (N + (Cs ++ c6).length) := uN6.trans (congrArg nI (by simp only [List.length_append, List.length_cons, List.length_nil] <;> omega))
              have uL6 : qLv U6 tp n q6 := uL6
              refine x_aload_n 57 0 (ab_dd tk_re_readSum 27 rfl) rfl rfl rfl ?_
              refine x_iload_n 58 2 (ab_dd tk_re_readSum 28 rfl) rfl rfl rfl ?_
              refine t_callV 61 M_re_put 0 1 [_] (ab_dd tk_re_readSum 29 rfl) rfl (by first | decide | omega) K_re_put V_re_put.1 V_re_put.2 L_re_165 rfl (Nat.le_of_ble_eq_true rfl) (by decide) (Nat.lt_of_lt_of_le (by decide) uL6.1.1) (uL6.1.2.1 22 (by decide)) rfl (LA_put uL6 un6 (by first | omega | (simp only [List.length_append, List.length_cons, List.length_nil]; omega)) 3001 _ (by decide)) (fun v1 w1 h1 => ?_)
              obtain ⟨rfl, U8, rfl, uF8, uL8, uC8, uN8, uM8⟩ := h1
              have uf8 : sI U8 77 = appL N (sI S 77) ((Cs ++ c6) ++ [3001]) := by rw [uC8, uf6, appL_app]
              have un8 : sI U8 72 12 = nI (N + ((Cs ++ c6) ++ [3001]).length) := uN8.trans (congrArg nI (by simp only [List.length_append, List.length_cons, List.length_nil] <;> omega))
              refine xn_iinc 64 1 (fun y => [some (.ref 72), some (.int y), some (.int ((-11)))]) (i + 1) (ab_dd tk_re_readSum 30 rfl) rfl (by decide) rfl (fun _ => rfl) (iinc_p 1) ?_
              refine x_goto 6 (ab_dd tk_re_readSum 31 rfl) (by decide) ?_
              rw [show 3000 + (tK tp n q - 32) = 3001 by omega] at hun
              exact ih (by omega) _ _ _ _ _ (((uF0.tr uG5.F).tr uF6).tr uF8) uL8 uf8 un8 (uM8.trans uM6) (by first | omega | (simp only [List.length_append, List.length_cons, List.length_nil]; omega)) (by omega) (by first | omega | (simp only [List.length_append, List.length_cons, List.length_nil]; omega)) (by omega) (by omega) (by rw [hsp0, hun, if_pos (by omega), hX6]; exact pB_as _ _ _ _)
  refine x_aload_n 1 0 (ab_dd tk_re_readSum 0 rfl) rfl rfl rfl ?_
  refine t_callV 4 M_re_readTerm (12 * (6 - deep) + 8 + 4) 0 [] (ab_dd tk_re_readSum 1 rfl) rfl (by omega) K_re_readTerm V_re_readTerm.1 V_re_readTerm.2 L_re_158 rfl (Nat.le_of_ble_eq_true rfl) (by decide) (Nat.lt_of_lt_of_le (by decide) hL.1.1) (hL.1.2.1 22 (by decide)) rfl (hA f (Nat.le_refl _) _ N deep p hL (by exact (qF.rf.2 9 (by omega)).trans h9) hN h10 (by first | omega | (simp only [List.length_append, List.length_cons, List.length_nil]; omega)) (by omega) (by omega)) (fun v1 w1 h1 => ?_)
  obtain ⟨rfl, U1, rfl, uF1, uO1⟩ := h1
  rcases hX1 : pS tp n la f 1 deep p with e1 | ⟨q1, c1⟩
  · rw [hX1] at uO1
    obtain ⟨uD1, uB1⟩ := uO1
    refine x_iconst 5 0 (ab_dd tk_re_readSum 2 rfl) rfl (by decide) (x_topn 0 rfl ?_)
    refine x_istore_n 6 [some (.ref 72), some (.int (nI 0)), none] 1 (ab_dd tk_re_readSum 3 rfl) rfl rfl (by decide) rfl ?_
    refine x_iload_n 7 1 (ab_dd tk_re_readSum 4 rfl) rfl rfl rfl ?_
    refine x_sipush 10 900 (ab_dd tk_re_readSum 5 rfl) rfl (by decide) (x_topn 900 rfl ?_)
    refine x_icmp_ge_f 13 (ab_dd tk_re_readSum 6 rfl) rfl 67 (by decide) (fun z => absurd ((nI_leI (a := 900) (b := 0) (by omega) (by omega)).mp z) (show ¬ (900 ≤ 0) by decide)) ?_
    refine x_aload_n 14 0 (ab_dd tk_re_readSum 7 rfl) rfl rfl rfl ?_
    refine x_bipush 16 43 (ab_dd tk_re_readSum 8 rfl) rfl (by decide) (x_topn 43 rfl ?_)
    refine t_callV 19 M_re_isSign 0 1 [_] (ab_dd tk_re_readSum 9 rfl) rfl (by first | decide | omega) K_re_isSign V_re_isSign.1 V_re_isSign.2 L_re_161 rfl (Nat.le_of_ble_eq_true rfl) (by decide) (Nat.lt_of_lt_of_le (by decide) uD1.1.1) (uD1.1.2.1 22 (by decide)) rfl (DA_isSign uD1 _) (fun v1 w1 h1 => ?_)
    obtain ⟨rfl, rfl⟩ := h1
    refine x_if_ne_f 22 (ab_dd tk_re_readSum 10 rfl) rfl 31 (by decide) (by decide) ?_
    refine x_aload_n 23 0 (ab_dd tk_re_readSum 11 rfl) rfl rfl rfl ?_
    refine x_bipush 25 45 (ab_dd tk_re_readSum 12 rfl) rfl (by decide) (x_topn 45 rfl ?_)
    refine t_callV 28 M_re_isSign 0 1 [_] (ab_dd tk_re_readSum 13 rfl) rfl (by first | decide | omega) K_re_isSign V_re_isSign.1 V_re_isSign.2 L_re_161 rfl (Nat.le_of_ble_eq_true rfl) (by decide) (Nat.lt_of_lt_of_le (by decide) uD1.1.1) (uD1.1.2.1 22 (by decide)) rfl (DA_isSign uD1 _) (fun v1 w1 h1 => ?_)
    obtain ⟨rfl, rfl⟩ := h1
    refine x_if_eq_t 67 (ab_dd tk_re_readSum 14 rfl) (by decide) (by decide) ?_
    have hsp : pS tp n la (f + 1) 2 deep p = .inl e1 := by
      show qSq _ 1 7 deep p = _
      unfold qSq
      rw [hX1]
      rfl
    exact x_vret (ab_dd tk_re_readSum 32 rfl) ⟨rfl, _, rfl, (qF.rf.tr uF1), by rw [hsp]; exact ⟨uD1, uB1.up (by first | omega | (simp only [List.length_append, List.length_cons, List.length_nil]; omega))⟩⟩
  · rw [hX1] at uO1
    obtain ⟨uL1, uC1, uN1, uM1⟩ := uO1
    have hg1 := pS_len _ _ _ _ _ _ hL.2.2.2.2.2.2.1 hX1
    obtain ⟨hga1, hgb1, hgc1, hgd1⟩ := hg1
    have hge1 := hgd1 (by decide)
    have uf1 : sI U1 77 = appL N (sI S 77) c1 := uC1.trans (congrArg (fun z => appL N z c1) rfl)
    have un1 : sI U1 72 12 = nI (N + c1.length) := uN1.trans (congrArg nI (by simp only [List.length_append, List.length_cons, List.length_nil] <;> omega))
    have uL1 : qLv U1 tp n q1 := uL1
    refine x_iconst 5 0 (ab_dd tk_re_readSum 2 rfl) rfl (by decide) (x_topn 0 rfl ?_)
    refine x_istore_n 6 [some (.ref 72), some (.int (nI 0)), none] 1 (ab_dd tk_re_readSum 3 rfl) rfl rfl (by decide) rfl ?_
    exact lp f (Nat.le_refl _) _ _ _ _ _ (qF.rf.tr uF1) uL1 uf1 un1 uM1 (by first | omega | (simp only [List.length_append, List.length_cons, List.length_nil]; omega)) (by omega) (by first | omega | (simp only [List.length_append, List.length_cons, List.length_nil]; omega)) (by omega) (by omega) (by show qSq _ 1 7 deep p = _; unfold qSq; rw [hX1]; rfl)
theorem k_readBoth {G : ab_G} {tp : Nat → Nat} {n la f : Nat} (hla : la < 2) (hA : ∀ g, g ≤ f → KM G tp n la M_re_readUnit 3 4 g) : KM G tp n la M_re_readBoth 4 5 (f + 1) := by
  intro S N deep p hL h9 hN h10 hNp hdeep hfu
  have hp := hL.2.2.2.2.2.2.1
  have hn9 := hL.2.2.2.1
  have hk42 := tK_lt tp n p
  have hr42 := tN_lt (tp := tp) hp
  have hgap := tK_gap tp n p
  obtain ⟨ck0, ck1, ck2, ck3, ck4⟩ := ckd_i (tK tp n p) hgap
  have ckl := ckd_lt (tK tp n p)
  refine x_enter [some (.ref 72), none] (by decide) (Nat.le_of_ble_eq_true rfl) rfl (fun v w' h => by obtain ⟨rfl, -⟩ := h; trivial) ?_
  have lp : ∀ g, g ≤ f → ∀ (U : ab_S) (q i : Nat) (Cs : List Nat), qF S U → qLv U tp n q → sI U 77 = appL N (sI S 77) Cs → sI U 72 12 = nI (N + Cs.length) → sI U 72 10 = nI deep → N + Cs.length ≤ q → p ≤ q → Cs.length + p ≤ q → i ≤ q → 8 * (n - q) < g → pS tp n la (f + 1) 4 deep p = pB (pS tp n la g 8 deep q) (fun r d => .inr (r, Cs ++ d)) → ab_Ex G (12 * (6 - deep) + 8 + 10) M_re_readBoth 6 [some (.ref 72), some (.int (nI i))] [] (sw U) (qOut S tp n N deep p (pS tp n la (f + 1) 4 deep p)) := by
    intro g
    induction g with
    | zero => intro _ U q i Cs _ _ _ _ _ _ _ _ _ z; exact absurd z (by omega)
    | succ g ih =>
      intro hgf U q i Cs uF0 uL0 uf0 un0 um0 hCq hpq hCp hiq hfq hsp0
      have hq := uL0.2.2.2.2.2.2.1
      have hq42 := tK_lt tp n q
      have hend : 900 ≤ q → tK tp n q = 24 := fun z => tK_e (Nat.le_trans (by omega) (tS_b tp hq).1)
      have hun : pS tp n la (g + 1) 8 deep q = if 18 ≤ tK tp n q ∧ tK tp n q ≤ 18 then pB (pS tp n la g 3 deep (tE tp n q)) (fun q1 c => pB (pS tp n la g 8 deep q1) (fun r d => .inr (r, c ++ (3007 + (tK tp n q - 18)) :: d))) else .inr (q, []) := rfl
      refine x_iload_n 7 1 (ab_dd tk_re_readBoth 4 rfl) rfl rfl rfl ?_
      refine x_sipush 10 900 (ab_dd tk_re_readBoth 5 rfl) rfl (by decide) (x_topn 900 rfl ?_)
      refine xn_icmp_ge 13 42 (ab_dd tk_re_readBoth 6 rfl) rfl (by decide) (by omega) (by omega) (fun h10 => ?_) (fun h10 => ?_)
      · have h24 := hend (by omega)
        have hsp : pS tp n la (f + 1) 4 deep p = .inr (q, Cs) := by
          rw [hsp0, hun, if_neg (by omega)]
          show Sum.inr (q, Cs ++ []) = _
          rw [List.append_nil]
        exact x_vret (ab_dd tk_re_readBoth 20 rfl) ⟨rfl, _, rfl, uF0, by rw [hsp]; exact ⟨uL0, uf0, un0, um0⟩⟩
      · refine x_aload_n 14 0 (ab_dd tk_re_readBoth 7 rfl) rfl rfl rfl ?_
        refine x_ldcS 16 19 (ab_dd tk_re_readBoth 8 rfl) rfl (by decide) (List.mem_of_getElem? (i := 19) rfl) ?_
        refine t_callV 19 M_re_isWord 4 1 [_] (ab_dd tk_re_readBoth 9 rfl) rfl (by first | decide | omega) K_re_isWord V_re_isWord.1 V_re_isWord.2 L_re_93 rfl (Nat.le_of_ble_eq_true rfl) (by decide) (Nat.lt_of_lt_of_le (by decide) uL0.1.1) (uL0.1.2.1 22 (by decide)) rfl (LA_isWord uL0 18 19 (by decide) rfl) (fun v1 w1 h1 => ?_)
        obtain ⟨rfl, rfl⟩ := h1
        refine xb_if_eq 22 42 (ab_dd tk_re_readBoth 10 rfl) rfl (by decide) (fun h19 => ?_) (fun h19 => ?_)
        · have hsp : pS tp n la (f + 1) 4 deep p = .inr (q, Cs) := by
            rw [hsp0, hun, if_neg (by omega)]
            show Sum.inr (q, Cs ++ []) = _
            rw [List.append_nil]
          exact x_vret (ab_dd tk_re_readBoth 20 rfl) ⟨rfl, _, rfl, uF0, by rw [hsp]; exact ⟨uL0, uf0, un0, um0⟩⟩
        · refine x_aload_n 23 0 (ab_dd tk_re_readBoth 11 rfl) rfl rfl rfl ?_
          refine t_callV 26 M_re_advance 5 0 [] (ab_dd tk_re_readBoth 12 rfl) rfl (by first | decide | omega) K_re_advance V_re_advance.1 V_re_advance.2 L_re_64 rfl (Nat.le_of_ble_eq_true rfl) (by decide) (Nat.lt_of_lt_of_le (by decide) uL0.1.1) (uL0.1.2.1 22 (by decide)) rfl (LA_adv uL0 (by omega)) (fun v1 w1 h1 => ?_)
          obtain ⟨rfl, U1, rfl, uG1, uL1⟩ := h1
          have ht1 := tE_g uL0.2.2.2.2.2.2.1 (show tK tp n q ≠ 24 by omega)
          refine x_aload_n 27 0 (ab_dd tk_re_readBoth 13 rfl) rfl rfl rfl ?_
          refine t_callV 30 M_re_readUnit (12 * (6 - deep) + 8 + 8) 0 [] (ab_dd tk_re_readBoth 14 rfl) rfl (by omega) K_re_readUnit V_re_readUnit.1 V_re_readUnit.2 L_re_195 rfl (Nat.le_of_ble_eq_true rfl) (by decide) (Nat.lt_of_lt_of_le (by decide) uL1.1.1) (uL1.1.2.1 22 (by decide)) rfl (hA g (by omega) _ (N + Cs.length) deep (tE tp n q) uL1 (by exact ((uF0.tr uG1.F).2 9 (by omega)).trans h9) ((uG1.2 12 (by omega)).trans un0) ((uG1.2 10 (by omega)).trans um0) (by first | omega | (simp only [List.length_append, List.length_cons, List.length_nil]; omega)) (by omega) (by omega)) (fun v1 w1 h1 => ?_)
          obtain ⟨rfl, U2, rfl, uF2, uO2⟩ := h1
          rcases hX2 : pS tp n la g 3 deep (tE tp n q) with e2 | ⟨q2, c2⟩
          · rw [hX2] at uO2
            obtain ⟨uD2, uB2⟩ := uO2
            refine x_aload_n 31 0 (ab_dd tk_re_readBoth 15 rfl) rfl rfl rfl ?_
            refine x_bipush 33 (-17) (ab_dd tk_re_readBoth 16 rfl) rfl (by decide) ?_
            refine t_callV 36 M_re_put 0 1 [_] (ab_dd tk_re_readBoth 17 rfl) rfl (by first | decide | omega) K_re_put V_re_put.1 V_re_put.2 L_re_165 rfl (Nat.le_of_ble_eq_true rfl) (by decide) (Nat.lt_of_lt_of_le (by decide) uD2.1.1) (uD2.1.2.1 22 (by decide)) rfl (DA_put uD2 _) (fun v1 w1 h1 => ?_)
            obtain ⟨rfl, U3, rfl, uF3, uD3, uB3⟩ := h1
            refine xn_iinc 39 1 (fun y => [some (.ref 72), some (.int y)]) (i + 1) (ab_dd tk_re_readBoth 18 rfl) rfl (by decide) rfl (fun _ => rfl) (iinc_p 1) ?_
            refine x_goto 6 (ab_dd tk_re_readBoth 19 rfl) (by decide) ?_
            refine x_iload_n 7 1 (ab_dd tk_re_readBoth 4 rfl) rfl rfl rfl ?_
            refine x_sipush 10 900 (ab_dd tk_re_readBoth 5 rfl) rfl (by decide) (x_topn 900 rfl ?_)
            refine xn_icmp_ge 13 42 (ab_dd tk_re_readBoth 6 rfl) rfl (by decide) (by omega) (by omega) (fun h10 => ?_) (fun h10 => ?_)
            · have hsp : pS tp n la (f + 1) 4 deep p = .inl e2 := by
                rw [hsp0, hun, if_pos (by omega), hX2]
                rfl
              exact x_vret (ab_dd tk_re_readBoth 20 rfl) ⟨rfl, _, rfl, (((uF0.tr uG1.F).tr uF2).tr uF3), by rw [hsp]; exact ⟨uD3, (uB3 _ uB2).up (by first | omega | (simp only [List.length_append, List.length_cons, List.length_nil]; omega))⟩⟩
            · refine x_aload_n 14 0 (ab_dd tk_re_readBoth 7 rfl) rfl rfl rfl ?_
              refine x_ldcS 16 19 (ab_dd tk_re_readBoth 8 rfl) rfl (by decide) (List.mem_of_getElem? (i := 19) rfl) ?_
              refine t_callV 19 M_re_isWord 4 1 [_] (ab_dd tk_re_readBoth 9 rfl) rfl (by first | decide | omega) K_re_isWord V_re_isWord.1 V_re_isWord.2 L_re_93 rfl (Nat.le_of_ble_eq_true rfl) (by decide) (Nat.lt_of_lt_of_le (by decide) uD3.1.1) (uD3.1.2.1 22 (by decide)) rfl (DA_isWord uD3 _) (fun v1 w1 h1 => ?_)
              obtain ⟨rfl, rfl⟩ := h1
              refine x_if_eq_t 42 (ab_dd tk_re_readBoth 10 rfl) (by decide) (by decide) ?_
              have hsp : pS tp n la (f + 1) 4 deep p = .inl e2 := by
                rw [hsp0, hun, if_pos (by omega), hX2]
                rfl
              exact x_vret (ab_dd tk_re_readBoth 20 rfl) ⟨rfl, _, rfl, (((uF0.tr uG1.F).tr uF2).tr uF3), by rw [hsp]; exact ⟨uD3, (uB3 _ uB2).up (by first | omega | (simp only [List.length_append, List.length_cons, List.length_nil]; omega))⟩⟩
          · rw [hX2] at uO2
            obtain ⟨uL2, uC2, uN2, uM2⟩ := uO2
            have hg2 := pS_len _ _ _ _ _ _ uL1.2.2.2.2.2.2.1 hX2
            obtain ⟨hga2, hgb2, hgc2, hgd2⟩ := hg2
            have hge2 := hgd2 (by decide)
            have uf2 : sI U2 77 = appL N (sI S 77) (Cs ++ c2) := by rw [uC2, (uG1.la.trans uf0), appL_app]
            have un2 : sI U2 72 12 = nI (N + (Cs ++ c2).length) := uN2.trans (congrArg nI (by simp only [List.length_append, List.length_cons, List.length_nil] <;> omega))
            have uL2 : qLv U2 tp n q2 := uL2
            refine x_aload_n 31 0 (ab_dd tk_re_readBoth 15 rfl) rfl rfl rfl ?_
            refine x_bipush 33 (-17) (ab_dd tk_re_readBoth 16 rfl) rfl (by decide) ?_
            refine t_callV 36 M_re_put 0 1 [_] (ab_dd tk_re_readBoth 17 rfl) rfl (by first | decide | omega) K_re_put V_re_put.1 V_re_put.2 L_re_165 rfl (Nat.le_of_ble_eq_true rfl) (by decide) (Nat.lt_of_lt_of_le (by decide) uL2.1.1) (uL2.1.2.1 22 (by decide)) rfl (LA_put uL2 un2 (by first | omega | (simp only [List.length_append, List.length_cons, List.length_nil]; omega)) 3007 _ (by decide)) (fun v1 w1 h1 => ?_)
            obtain ⟨rfl, U4, rfl, uF4, uL4, uC4, uN4, uM4⟩ := h1
            have uf4 : sI U4 77 = appL N (sI S 77) ((Cs ++ c2) ++ [3007]) := by rw [uC4, uf2, appL_app]
            have un4 : sI U4 72 12 = nI (N + ((Cs ++ c2) ++ [3007]).length) := uN4.trans (congrArg nI (by simp only [List.length_append, List.length_cons, List.length_nil] <;> omega))
            refine xn_iinc 39 1 (fun y => [some (.ref 72), some (.int y)]) (i + 1) (ab_dd tk_re_readBoth 18 rfl) rfl (by decide) rfl (fun _ => rfl) (iinc_p 1) ?_
            refine x_goto 6 (ab_dd tk_re_readBoth 19 rfl) (by decide) ?_
            rw [show 3007 + (tK tp n q - 18) = 3007 by omega] at hun
            exact ih (by omega) _ _ _ _ (((uF0.tr uG1.F).tr uF2).tr uF4) uL4 uf4 un4 (uM4.trans uM2) (by first | omega | (simp only [List.length_append, List.length_cons, List.length_nil]; omega)) (by omega) (by first | omega | (simp only [List.length_append, List.length_cons, List.length_nil]; omega)) (by omega) (by omega) (by rw [hsp0, hun, if_pos (by omega), hX2]; exact pB_as _ _ _ _)
  refine x_aload_n 1 0 (ab_dd tk_re_readBoth 0 rfl) rfl rfl rfl ?_
  refine t_callV 4 M_re_readUnit (12 * (6 - deep) + 8 + 8) 0 [] (ab_dd tk_re_readBoth 1 rfl) rfl (by omega) K_re_readUnit V_re_readUnit.1 V_re_readUnit.2 L_re_195 rfl (Nat.le_of_ble_eq_true rfl) (by decide) (Nat.lt_of_lt_of_le (by decide) hL.1.1) (hL.1.2.1 22 (by decide)) rfl (hA f (Nat.le_refl _) _ N deep p hL (by exact (qF.rf.2 9 (by omega)).trans h9) hN h10 (by first | omega | (simp only [List.length_append, List.length_cons, List.length_nil]; omega)) (by omega) (by omega)) (fun v1 w1 h1 => ?_)
  obtain ⟨rfl, U1, rfl, uF1, uO1⟩ := h1
  rcases hX1 : pS tp n la f 3 deep p with e1 | ⟨q1, c1⟩
  · rw [hX1] at uO1
    obtain ⟨uD1, uB1⟩ := uO1
    refine x_iconst 5 0 (ab_dd tk_re_readBoth 2 rfl) rfl (by decide) (x_topn 0 rfl ?_)
    refine x_istore_n 6 [some (.ref 72), some (.int (nI 0))] 1 (ab_dd tk_re_readBoth 3 rfl) rfl rfl (by decide) rfl ?_
    refine x_iload_n 7 1 (ab_dd tk_re_readBoth 4 rfl) rfl rfl rfl ?_
    refine x_sipush 10 900 (ab_dd tk_re_readBoth 5 rfl) rfl (by decide) (x_topn 900 rfl ?_)
    refine x_icmp_ge_f 13 (ab_dd tk_re_readBoth 6 rfl) rfl 42 (by decide) (fun z => absurd ((nI_leI (a := 900) (b := 0) (by omega) (by omega)).mp z) (show ¬ (900 ≤ 0) by decide)) ?_
    refine x_aload_n 14 0 (ab_dd tk_re_readBoth 7 rfl) rfl rfl rfl ?_
    refine x_ldcS 16 19 (ab_dd tk_re_readBoth 8 rfl) rfl (by decide) (List.mem_of_getElem? (i := 19) rfl) ?_
    refine t_callV 19 M_re_isWord 4 1 [_] (ab_dd tk_re_readBoth 9 rfl) rfl (by first | decide | omega) K_re_isWord V_re_isWord.1 V_re_isWord.2 L_re_93 rfl (Nat.le_of_ble_eq_true rfl) (by decide) (Nat.lt_of_lt_of_le (by decide) uD1.1.1) (uD1.1.2.1 22 (by decide)) rfl (DA_isWord uD1 _) (fun v1 w1 h1 => ?_)
    obtain ⟨rfl, rfl⟩ := h1
    refine x_if_eq_t 42 (ab_dd tk_re_readBoth 10 rfl) (by decide) (by decide) ?_
    have hsp : pS tp n la (f + 1) 4 deep p = .inl e1 := by
      show qSq _ 3 8 deep p = _
      unfold qSq
      rw [hX1]
      rfl
    exact x_vret (ab_dd tk_re_readBoth 20 rfl) ⟨rfl, _, rfl, (qF.rf.tr uF1), by rw [hsp]; exact ⟨uD1, uB1.up (by first | omega | (simp only [List.length_append, List.length_cons, List.length_nil]; omega))⟩⟩
  · rw [hX1] at uO1
    obtain ⟨uL1, uC1, uN1, uM1⟩ := uO1
    have hg1 := pS_len _ _ _ _ _ _ hL.2.2.2.2.2.2.1 hX1
    obtain ⟨hga1, hgb1, hgc1, hgd1⟩ := hg1
    have hge1 := hgd1 (by decide)
    have uf1 : sI U1 77 = appL N (sI S 77) c1 := uC1.trans (congrArg (fun z => appL N z c1) rfl)
    have un1 : sI U1 72 12 = nI (N + c1.length) := uN1.trans (congrArg nI (by simp only [List.length_append, List.length_cons, List.length_nil] <;> omega))
    have uL1 : qLv U1 tp n q1 := uL1
    refine x_iconst 5 0 (ab_dd tk_re_readBoth 2 rfl) rfl (by decide) (x_topn 0 rfl ?_)
    refine x_istore_n 6 [some (.ref 72), some (.int (nI 0))] 1 (ab_dd tk_re_readBoth 3 rfl) rfl rfl (by decide) rfl ?_
    exact lp f (Nat.le_refl _) _ _ _ _ (qF.rf.tr uF1) uL1 uf1 un1 uM1 (by first | omega | (simp only [List.length_append, List.length_cons, List.length_nil]; omega)) (by omega) (by first | omega | (simp only [List.length_append, List.length_cons, List.length_nil]; omega)) (by omega) (by omega) (by show qSq _ 3 8 deep p = _; unfold qSq; rw [hX1]; rfl)
theorem k_readTruth {G : ab_G} {tp : Nat → Nat} {n la f : Nat} (hla : la < 2) (hA : ∀ g, g ≤ f → KM G tp n la M_re_readBoth 4 5 g) : KM G tp n la M_re_readTruth 5 6 (f + 1) := by
  intro S N deep p hL h9 hN h10 hNp hdeep hfu
  have hp := hL.2.2.2.2.2.2.1
  have hn9 := hL.2.2.2.1
  have hk42 := tK_lt tp n p
  have hr42 := tN_lt (tp := tp) hp
  have hgap := tK_gap tp n p
  obtain ⟨ck0, ck1, ck2, ck3, ck4⟩ := ckd_i (tK tp n p) hgap
  have ckl := ckd_lt (tK tp n p)
  refine x_enter [some (.ref 72), none] (by decide) (Nat.le_of_ble_eq_true rfl) rfl (fun v w' h => by obtain ⟨rfl, -⟩ := h; trivial) ?_
  have lp : ∀ g, g ≤ f → ∀ (U : ab_S) (q i : Nat) (Cs : List Nat), qF S U → qLv U tp n q → sI U 77 = appL N (sI S 77) Cs → sI U 72 12 = nI (N + Cs.length) → sI U 72 10 = nI deep → N + Cs.length ≤ q → p ≤ q → Cs.length + p ≤ q → i ≤ q → 8 * (n - q) < g → pS tp n la (f + 1) 5 deep p = pB (pS tp n la g 9 deep q) (fun r d => .inr (r, Cs ++ d)) → ab_Ex G (12 * (6 - deep) + 8 + 12) M_re_readTruth 6 [some (.ref 72), some (.int (nI i))] [] (sw U) (qOut S tp n N deep p (pS tp n la (f + 1) 5 deep p)) := by
    intro g
    induction g with
    | zero => intro _ U q i Cs _ _ _ _ _ _ _ _ _ z; exact absurd z (by omega)
    | succ g ih =>
      intro hgf U q i Cs uF0 uL0 uf0 un0 um0 hCq hpq hCp hiq hfq hsp0
      have hq := uL0.2.2.2.2.2.2.1
      have hq42 := tK_lt tp n q
      have hend : 900 ≤ q → tK tp n q = 24 := fun z => tK_e (Nat.le_trans (by omega) (tS_b tp hq).1)
      have hun : pS tp n la (g + 1) 9 deep q = if 19 ≤ tK tp n q ∧ tK tp n q ≤ 19 then pB (pS tp n la g 4 deep (tE tp n q)) (fun q1 c => pB (pS tp n la g 9 deep q1) (fun r d => .inr (r, c ++ (3008 + (tK tp n q - 19)) :: d))) else .inr (q, []) := rfl
      refine x_iload_n 7 1 (ab_dd tk_re_readTruth 4 rfl) rfl rfl rfl ?_
      refine x_sipush 10 900 (ab_dd tk_re_readTruth 5 rfl) rfl (by decide) (x_topn 900 rfl ?_)
      refine xn_icmp_ge 13 42 (ab_dd tk_re_readTruth 6 rfl) rfl (by decide) (by omega) (by omega) (fun h10 => ?_) (fun h10 => ?_)
      · have h24 := hend (by omega)
        have hsp : pS tp n la (f + 1) 5 deep p = .inr (q, Cs) := by
          rw [hsp0, hun, if_neg (by omega)]
          show Sum.inr (q, Cs ++ []) = _
          rw [List.append_nil]
        exact x_vret (ab_dd tk_re_readTruth 20 rfl) ⟨rfl, _, rfl, uF0, by rw [hsp]; exact ⟨uL0, uf0, un0, um0⟩⟩
      · refine x_aload_n 14 0 (ab_dd tk_re_readTruth 7 rfl) rfl rfl rfl ?_
        refine x_ldcS 16 20 (ab_dd tk_re_readTruth 8 rfl) rfl (by decide) (List.mem_of_getElem? (i := 20) rfl) ?_
        refine t_callV 19 M_re_isWord 4 1 [_] (ab_dd tk_re_readTruth 9 rfl) rfl (by first | decide | omega) K_re_isWord V_re_isWord.1 V_re_isWord.2 L_re_93 rfl (Nat.le_of_ble_eq_true rfl) (by decide) (Nat.lt_of_lt_of_le (by decide) uL0.1.1) (uL0.1.2.1 22 (by decide)) rfl (LA_isWord uL0 19 20 (by decide) rfl) (fun v1 w1 h1 => ?_)
        obtain ⟨rfl, rfl⟩ := h1
        refine xb_if_eq 22 42 (ab_dd tk_re_readTruth 10 rfl) rfl (by decide) (fun h19 => ?_) (fun h19 => ?_)
        · have hsp : pS tp n la (f + 1) 5 deep p = .inr (q, Cs) := by
            rw [hsp0, hun, if_neg (by omega)]
            show Sum.inr (q, Cs ++ []) = _
            rw [List.append_nil]
          exact x_vret (ab_dd tk_re_readTruth 20 rfl) ⟨rfl, _, rfl, uF0, by rw [hsp]; exact ⟨uL0, uf0, un0, um0⟩⟩
        · refine x_aload_n 23 0 (ab_dd tk_re_readTruth 11 rfl) rfl rfl rfl ?_
          refine t_callV 26 M_re_advance 5 0 [] (ab_dd tk_re_readTruth 12 rfl) rfl (by first | decide | omega) K_re_advance V_re_advance.1 V_re_advance.2 L_re_64 rfl (Nat.le_of_ble_eq_true rfl) (by decide) (Nat.lt_of_lt_of_le (by decide) uL0.1.1) (uL0.1.2.1 22 (by decide)) rfl (LA_adv uL0 (by omega)) (fun v1 w1 h1 => ?_)
          obtain ⟨rfl, U1, rfl, uG1, uL1⟩ := h1
          have ht1 := tE_g uL0.2.2.2.2.2.2.1 (show tK tp n q ≠ 24 by omega)
          refine x_aload_n 27 0 (ab_dd tk_re_readTruth 13 rfl) rfl rfl rfl ?_
          refine t_callV 30 M_re_readBoth (12 * (6 - deep) + 8 + 10) 0 [] (ab_dd tk_re_readTruth 14 rfl) rfl (by omega) K_re_readBoth V_re_readBoth.1 V_re_readBoth.2 L_re_190 rfl (Nat.le_of_ble_eq_true rfl) (by decide) (Nat.lt_of_lt_of_le (by decide) uL1.1.1) (uL1.1.2.1 22 (by decide)) rfl (hA g (by omega) _ (N + Cs.length) deep (tE tp n q) uL1 (by exact ((uF0.tr uG1.F).2 9 (by omega)).trans h9) ((uG1.2 12 (by omega)).trans un0) ((uG1.2 10 (by omega)).trans um0) (by first | omega | (simp only [List.length_append, List.length_cons, List.length_nil]; omega)) (by omega) (by omega)) (fun v1 w1 h1 => ?_)
          obtain ⟨rfl, U2, rfl, uF2, uO2⟩ := h1
          rcases hX2 : pS tp n la g 4 deep (tE tp n q) with e2 | ⟨q2, c2⟩
          · rw [hX2] at uO2
            obtain ⟨uD2, uB2⟩ := uO2
            refine x_aload_n 31 0 (ab_dd tk_re_readTruth 15 rfl) rfl rfl rfl ?_
            refine x_bipush 33 (-18) (ab_dd tk_re_readTruth 16 rfl) rfl (by decide) ?_
            refine t_callV 36 M_re_put 0 1 [_] (ab_dd tk_re_readTruth 17 rfl) rfl (by first | decide | omega) K_re_put V_re_put.1 V_re_put.2 L_re_165 rfl (Nat.le_of_ble_eq_true rfl) (by decide) (Nat.lt_of_lt_of_le (by decide) uD2.1.1) (uD2.1.2.1 22 (by decide)) rfl (DA_put uD2 _) (fun v1 w1 h1 => ?_)
            obtain ⟨rfl, U3, rfl, uF3, uD3, uB3⟩ := h1
            refine xn_iinc 39 1 (fun y => [some (.ref 72), some (.int y)]) (i + 1) (ab_dd tk_re_readTruth 18 rfl) rfl (by decide) rfl (fun _ => rfl) (iinc_p 1) ?_
            refine x_goto 6 (ab_dd tk_re_readTruth 19 rfl) (by decide) ?_
            refine x_iload_n 7 1 (ab_dd tk_re_readTruth 4 rfl) rfl rfl rfl ?_
            refine x_sipush 10 900 (ab_dd tk_re_readTruth 5 rfl) rfl (by decide) (x_topn 900 rfl ?_)
            refine xn_icmp_ge 13 42 (ab_dd tk_re_readTruth 6 rfl) rfl (by decide) (by omega) (by omega) (fun h10 => ?_) (fun h10 => ?_)
            · have hsp : pS tp n la (f + 1) 5 deep p = .inl e2 := by
                rw [hsp0, hun, if_pos (by omega), hX2]
                rfl
              exact x_vret (ab_dd tk_re_readTruth 20 rfl) ⟨rfl, _, rfl, (((uF0.tr uG1.F).tr uF2).tr uF3), by rw [hsp]; exact ⟨uD3, (uB3 _ uB2).up (by first | omega | (simp only [List.length_append, List.length_cons, List.length_nil]; omega))⟩⟩
            · refine x_aload_n 14 0 (ab_dd tk_re_readTruth 7 rfl) rfl rfl rfl ?_
              refine x_ldcS 16 20 (ab_dd tk_re_readTruth 8 rfl) rfl (by decide) (List.mem_of_getElem? (i := 20) rfl) ?_
              refine t_callV 19 M_re_isWord 4 1 [_] (ab_dd tk_re_readTruth 9 rfl) rfl (by first | decide | omega) K_re_isWord V_re_isWord.1 V_re_isWord.2 L_re_93 rfl (Nat.le_of_ble_eq_true rfl) (by decide) (Nat.lt_of_lt_of_le (by decide) uD3.1.1) (uD3.1.2.1 22 (by decide)) rfl (DA_isWord uD3 _) (fun v1 w1 h1 => ?_)
              obtain ⟨rfl, rfl⟩ := h1
              refine x_if_eq_t 42 (ab_dd tk_re_readTruth 10 rfl) (by decide) (by decide) ?_
              have hsp : pS tp n la (f + 1) 5 deep p = .inl e2 := by
                rw [hsp0, hun, if_pos (by omega), hX2]
                rfl
              exact x_vret (ab_dd tk_re_readTruth 20 rfl) ⟨rfl, _, rfl, (((uF0.tr uG1.F).tr uF2).tr uF3), by rw [hsp]; exact ⟨uD3, (uB3 _ uB2).up (by first | omega | (simp only [List.length_append, List.length_cons, List.length_nil]; omega))⟩⟩
          · rw [hX2] at uO2
            obtain ⟨uL2, uC2, uN2, uM2⟩ := uO2
            have hg2 := pS_len _ _ _ _ _ _ uL1.2.2.2.2.2.2.1 hX2
            obtain ⟨hga2, hgb2, hgc2, hgd2⟩ := hg2
            have hge2 := hgd2 (by decide)
            have uf2 : sI U2 77 = appL N (sI S 77) (Cs ++ c2) := by rw [uC2, (uG1.la.trans uf0), appL_app]
            have un2 : sI U2 72 12 = nI (N + (Cs ++ c2).length) := uN2.trans (congrArg nI (by simp only [List.length_append, List.length_cons, List.length_nil] <;> omega))
            have uL2 : qLv U2 tp n q2 := uL2
            refine x_aload_n 31 0 (ab_dd tk_re_readTruth 15 rfl) rfl rfl rfl ?_
            refine x_bipush 33 (-18) (ab_dd tk_re_readTruth 16 rfl) rfl (by decide) ?_
            refine t_callV 36 M_re_put 0 1 [_] (ab_dd tk_re_readTruth 17 rfl) rfl (by first | decide | omega) K_re_put V_re_put.1 V_re_put.2 L_re_165 rfl (Nat.le_of_ble_eq_true rfl) (by decide) (Nat.lt_of_lt_of_le (by decide) uL2.1.1) (uL2.1.2.1 22 (by decide)) rfl (LA_put uL2 un2 (by first | omega | (simp only [List.length_append, List.length_cons, List.length_nil]; omega)) 3008 _ (by decide)) (fun v1 w1 h1 => ?_)
            obtain ⟨rfl, U4, rfl, uF4, uL4, uC4, uN4, uM4⟩ := h1
            have uf4 : sI U4 77 = appL N (sI S 77) ((Cs ++ c2) ++ [3008]) := by rw [uC4, uf2, appL_app]
            have un4 : sI U4 72 12 = nI (N + ((Cs ++ c2) ++ [3008]).length) := uN4.trans (congrArg nI (by simp only [List.length_append, List.length_cons, List.length_nil] <;> omega))
            refine xn_iinc 39 1 (fun y => [some (.ref 72), some (.int y)]) (i + 1) (ab_dd tk_re_readTruth 18 rfl) rfl (by decide) rfl (fun _ => rfl) (iinc_p 1) ?_
            refine x_goto 6 (ab_dd tk_re_readTruth 19 rfl) (by decide) ?_
            rw [show 3008 + (tK tp n q - 19) = 3008 by omega] at hun
            exact ih (by omega) _ _ _ _ (((uF0.tr uG1.F).tr uF2).tr uF4) uL4 uf4 un4 (uM4.trans uM2) (by first | omega | (simp only [List.length_append, List.length_cons, List.length_nil]; omega)) (by omega) (by first | omega | (simp only [List.length_append, List.length_cons, List.length_nil]; omega)) (by omega) (by omega) (by rw [hsp0, hun, if_pos (by omega), hX2]; exact pB_as _ _ _ _)
  refine x_aload_n 1 0 (ab_dd tk_re_readTruth 0 rfl) rfl rfl rfl ?_
  refine t_callV 4 M_re_readBoth (12 * (6 - deep) + 8 + 10) 0 [] (ab_dd tk_re_readTruth 1 rfl) rfl (by omega) K_re_readBoth V_re_readBoth.1 V_re_readBoth.2 L_re_190 rfl (Nat.le_of_ble_eq_true rfl) (by decide) (Nat.lt_of_lt_of_le (by decide) hL.1.1) (hL.1.2.1 22 (by decide)) rfl (hA f (Nat.le_refl _) _ N deep p hL (by exact (qF.rf.2 9 (by omega)).trans h9) hN h10 (by first | omega | (simp only [List.length_append, List.length_cons, List.length_nil]; omega)) (by omega) (by omega)) (fun v1 w1 h1 => ?_)
  obtain ⟨rfl, U1, rfl, uF1, uO1⟩ := h1
  rcases hX1 : pS tp n la f 4 deep p with e1 | ⟨q1, c1⟩
  · rw [hX1] at uO1
    obtain ⟨uD1, uB1⟩ := uO1
    refine x_iconst 5 0 (ab_dd tk_re_readTruth 2 rfl) rfl (by decide) (x_topn 0 rfl ?_)
    refine x_istore_n 6 [some (.ref 72), some (.int (nI 0))] 1 (ab_dd tk_re_readTruth 3 rfl) rfl rfl (by decide) rfl ?_
    refine x_iload_n 7 1 (ab_dd tk_re_readTruth 4 rfl) rfl rfl rfl ?_
    refine x_sipush 10 900 (ab_dd tk_re_readTruth 5 rfl) rfl (by decide) (x_topn 900 rfl ?_)
    refine x_icmp_ge_f 13 (ab_dd tk_re_readTruth 6 rfl) rfl 42 (by decide) (fun z => absurd ((nI_leI (a := 900) (b := 0) (by omega) (by omega)).mp z) (show ¬ (900 ≤ 0) by decide)) ?_
    refine x_aload_n 14 0 (ab_dd tk_re_readTruth 7 rfl) rfl rfl rfl ?_
    refine x_ldcS 16 20 (ab_dd tk_re_readTruth 8 rfl) rfl (by decide) (List.mem_of_getElem? (i := 20) rfl) ?_
    refine t_callV 19 M_re_isWord 4 1 [_] (ab_dd tk_re_readTruth 9 rfl) rfl (by first | decide | omega) K_re_isWord V_re_isWord.1 V_re_isWord.2 L_re_93 rfl (Nat.le_of_ble_eq_true rfl) (by decide) (Nat.lt_of_lt_of_le (by decide) uD1.1.1) (uD1.1.2.1 22 (by decide)) rfl (DA_isWord uD1 _) (fun v1 w1 h1 => ?_)
    obtain ⟨rfl, rfl⟩ := h1
    refine x_if_eq_t 42 (ab_dd tk_re_readTruth 10 rfl) (by decide) (by decide) ?_
    have hsp : pS tp n la (f + 1) 5 deep p = .inl e1 := by
      show qSq _ 4 9 deep p = _
      unfold qSq
      rw [hX1]
      rfl
    exact x_vret (ab_dd tk_re_readTruth 20 rfl) ⟨rfl, _, rfl, (qF.rf.tr uF1), by rw [hsp]; exact ⟨uD1, uB1.up (by first | omega | (simp only [List.length_append, List.length_cons, List.length_nil]; omega))⟩⟩
  · rw [hX1] at uO1
    obtain ⟨uL1, uC1, uN1, uM1⟩ := uO1
    have hg1 := pS_len _ _ _ _ _ _ hL.2.2.2.2.2.2.1 hX1
    obtain ⟨hga1, hgb1, hgc1, hgd1⟩ := hg1
    have hge1 := hgd1 (by decide)
    have uf1 : sI U1 77 = appL N (sI S 77) c1 := uC1.trans (congrArg (fun z => appL N z c1) rfl)
    have un1 : sI U1 72 12 = nI (N + c1.length) := uN1.trans (congrArg nI (by simp only [List.length_append, List.length_cons, List.length_nil] <;> omega))
    have uL1 : qLv U1 tp n q1 := uL1
    refine x_iconst 5 0 (ab_dd tk_re_readTruth 2 rfl) rfl (by decide) (x_topn 0 rfl ?_)
    refine x_istore_n 6 [some (.ref 72), some (.int (nI 0))] 1 (ab_dd tk_re_readTruth 3 rfl) rfl rfl (by decide) rfl ?_
    exact lp f (Nat.le_refl _) _ _ _ _ (qF.rf.tr uF1) uL1 uf1 un1 uM1 (by first | omega | (simp only [List.length_append, List.length_cons, List.length_nil]; omega)) (by omega) (by first | omega | (simp only [List.length_append, List.length_cons, List.length_nil]; omega)) (by omega) (by omega) (by show qSq _ 4 9 deep p = _; unfold qSq; rw [hX1]; rfl)
