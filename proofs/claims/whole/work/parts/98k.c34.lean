/-! ===== the class's reader: tokens ===== -/
def ckd (K : Nat) : Nat := if K = 24 then 0 else if K = 23 then 2 else if K = 25 then 4 else if K < 23 then 1 else 3
def bT (S : ab_S) (tp : Nat → Nat) : Prop := ∀ i, i < 900 → sI S 51 i = sB (tp i) ∧ tp i < 256
theorem bT.eq {l : List Nat} {S S' : ab_S} {tp : Nat → Nat} (h : bT S tp) (hE : sEq l S S') (hl : 51 ∉ l) : bT S' tp := by
  unfold bT
  rw [hE.2.2.1 51 hl]
  exact h
def qT (S : ab_S) (tp : Nat → Nat) (n p : Nat) : Prop := sI S 72 2 = nI (tE tp n p) ∧ sI S 72 3 = nI (tS tp n p) ∧ sI S 72 4 = nI (ckd (tK tp n p)) ∧ (tK tp n p = 23 → sI S 72 5 = nI (tN tp n p)) ∧ (30 ≤ tK tp n p → sI S 72 5 = nI (kB 0 (tK tp n p - 30)))
theorem i2cN {c : Nat} (h : c < 256) : ((nI c).toUInt32 % 65536).toInt32 = nI c := by
  have z : (List.range 256).all (fun c => decide (((nI c).toUInt32 % 65536).toInt32 = nI c)) = true := by decide +kernel
  exact of_decide_eq_true (List.all_eq_true.mp z c (List.mem_range.mpr h))
theorem kIx_eq {t c : Nat} : ∀ m i k, kIx t c m i = some k → kB t k = c
  | 0, _, _, h => (by cases h)
  | m + 1, i, k, h => by
    unfold kIx at h
    split at h
    · rename_i z
      rw [← Option.some.inj h]; exact z
    · exact kIx_eq m (i + 1) k h
def kdC (c : Nat) : Nat := if isSm c = true then 1 else if isDg c = true then 2 else if (kIx 0 c 12 0).isSome = true then 3 else 4
theorem isSm_i {c : Nat} : isSm c = true ↔ (97 ≤ c ∧ c ≤ 122) := decide_eq_true_iff
theorem isDg_i {c : Nat} : isDg c = true ↔ (48 ≤ c ∧ c ≤ 57) := decide_eq_true_iff
theorem kdC_w {c : Nat} : kdC c = 1 ↔ isSm c = true := by
  unfold kdC
  split
  · exact ⟨fun _ => by assumption, fun _ => rfl⟩
  · refine ⟨fun z => ?_, fun z => absurd z (by assumption)⟩
    split at z
    · cases z
    · split at z <;> cases z
theorem kdC_d {c : Nat} : kdC c = 2 ↔ (¬ isSm c = true ∧ isDg c = true) := by
  unfold kdC
  split
  · rename_i h
    exact ⟨fun z => (by cases z), fun z => absurd h z.1⟩
  · rename_i h
    split
    · rename_i h2
      exact ⟨fun _ => ⟨h, h2⟩, fun _ => rfl⟩
    · rename_i h2
      refine ⟨fun z => ?_, fun z => absurd z.2 h2⟩
      split at z <;> cases z
theorem kdC_lt (c : Nat) : kdC c < 5 := by
  unfold kdC
  split
  · decide
  · split
    · decide
    · split <;> decide
def tb_re_kindOf : List (Nat × Instr × Nat) := [(0, .iload_n 0, 1), (1, .bipush 97, 2), (3, .if_icmp .lt 11, 3), (6, .iload_n 0, 1), (7, .bipush 122, 2), (9, .if_icmp .gt 5, 3), (12, .iconst 1, 1), (13, .ireturn, 1), (14, .iload_n 0, 1), (15, .bipush 48, 2), (17, .if_icmp .lt 11, 3), (20, .iload_n 0, 1), (21, .bipush 57, 2), (23, .if_icmp .gt 5, 3), (26, .iconst 2, 1), (27, .ireturn, 1), (28, .ldc 226, 2), (30, .iload_n 0, 1), (31, .i2c, 1), (32, .invokevirtual 228, 3), (35, .ifCond .lt 7, 3), (38, .iconst 3, 1), (39, .goto 4, 3), (42, .iconst 4, 1), (43, .ireturn, 1)]
theorem tk_re_kindOf : ∀ q ∈ tb_re_kindOf, decode M_re_kindOf.2.1 q.1 = .ok q.2 := by decide +kernel
theorem c_re_kindOf {G : ab_G} {S : ab_S} (kc : kSh S.1) (h50 : 50 ≤ sn S) (c : Nat) (hc : c < 256) : ab_C G 4 M_re_kindOf [.int (nI c)] (sw S) (fun v w' => v = some (.int (nI (kdC c))) ∧ w' = sw S) := by
  refine x_enter [some (.int (nI c))] (by decide) (Nat.le_of_ble_eq_true rfl) rfl (fun v w' h => by obtain ⟨rfl, rfl⟩ := h; rfl) ?_
  refine x_iload_n 1 0 (ab_dd tk_re_kindOf 0 rfl) rfl rfl rfl ?_
  refine x_bipush 3 97 (ab_dd tk_re_kindOf 1 rfl) rfl (by decide) (x_topn 97 rfl ?_)
  refine xn_icmp_lt 6 14 (ab_dd tk_re_kindOf 2 rfl) rfl (by decide) (by omega) (by omega) (fun h3 => ?_) (fun h3 => ?_)
  · refine x_iload_n 15 0 (ab_dd tk_re_kindOf 8 rfl) rfl rfl rfl ?_
    refine x_bipush 17 48 (ab_dd tk_re_kindOf 9 rfl) rfl (by decide) (x_topn 48 rfl ?_)
    refine xn_icmp_lt 20 28 (ab_dd tk_re_kindOf 10 rfl) rfl (by decide) (by omega) (by omega) (fun h17 => ?_) (fun h17 => ?_)
    · refine x_ldcS 30 0 (ab_dd tk_re_kindOf 16 rfl) rfl (by decide) (List.mem_of_getElem? (i := 0) rfl) ?_
      refine x_iload_n 31 0 (ab_dd tk_re_kindOf 17 rfl) rfl rfl rfl ?_
      refine x_i2c 32 (ab_dd tk_re_kindOf 18 rfl) rfl (x_topn c (i2cN hc) ?_)
      refine x_callT 35 M_jS_indexOf_0 3 1 [_] (ab_dd tk_re_kindOf 19 rfl) rfl (by first | decide | omega) K_jS_indexOf_0 V_jS_indexOf_0.1 V_jS_indexOf_0.2 (ml_T L_re_228 rfl) rfl (Nat.le_of_ble_eq_true rfl) (by omega) (by rw [sw_old (by omega) h50, (kc.1 0 (by decide)).1]) rfl (c_jS_indexOf_0 kc h50 0 (by decide) (by decide) c hc) (fun v1 w1 h1 => ?_)
      obtain ⟨rfl, rfl⟩ := h1
      rw [show kLen 0 = 12 from rfl]
      rcases hix : kIx 0 c 12 0 with _ | j
      · show ab_Ex _ _ _ _ _ (.int (-1) :: _) _ _
        refine x_if_lt_t 42 (ab_dd tk_re_kindOf 20 rfl) (by decide) (by decide) ?_
        refine x_iconst 43 4 (ab_dd tk_re_kindOf 23 rfl) rfl (by decide) (x_topn 4 rfl ?_)
        exact x_iret (ab_dd tk_re_kindOf 24 rfl) ⟨rI (congrArg nI (by unfold kdC; rw [if_neg (fun z => by have := isSm_i.mp z; omega), if_neg (fun z => by have := isDg_i.mp z; omega), hix]; rfl)), rfl⟩
      · show ab_Ex _ _ _ _ _ (.int (nI j) :: _) _ _
        have hjl := kIx_lt hix
        refine x_if_lt_f 38 (ab_dd tk_re_kindOf 20 rfl) rfl 42 (by decide) (fun z => absurd ((nI_ltI (a := j) (b := 0) (by omega) (by omega)).mp z) (show ¬ (j < 0) by omega)) ?_
        refine x_iconst 39 3 (ab_dd tk_re_kindOf 21 rfl) rfl (by decide) (x_topn 3 rfl ?_)
        refine x_goto 43 (ab_dd tk_re_kindOf 22 rfl) (by decide) ?_
        exact x_iret (ab_dd tk_re_kindOf 24 rfl) ⟨rI (congrArg nI (by unfold kdC; rw [if_neg (fun z => by have := isSm_i.mp z; omega), if_neg (fun z => by have := isDg_i.mp z; omega), hix]; rfl)), rfl⟩
    · refine x_iload_n 21 0 (ab_dd tk_re_kindOf 11 rfl) rfl rfl rfl ?_
      refine x_bipush 23 57 (ab_dd tk_re_kindOf 12 rfl) rfl (by decide) (x_topn 57 rfl ?_)
      refine xn_icmp_gt 26 28 (ab_dd tk_re_kindOf 13 rfl) rfl (by decide) (by omega) (by omega) (fun h23 => ?_) (fun h23 => ?_)
      · refine x_ldcS 30 0 (ab_dd tk_re_kindOf 16 rfl) rfl (by decide) (List.mem_of_getElem? (i := 0) rfl) ?_
        refine x_iload_n 31 0 (ab_dd tk_re_kindOf 17 rfl) rfl rfl rfl ?_
        refine x_i2c 32 (ab_dd tk_re_kindOf 18 rfl) rfl (x_topn c (i2cN hc) ?_)
        refine x_callT 35 M_jS_indexOf_0 3 1 [_] (ab_dd tk_re_kindOf 19 rfl) rfl (by first | decide | omega) K_jS_indexOf_0 V_jS_indexOf_0.1 V_jS_indexOf_0.2 (ml_T L_re_228 rfl) rfl (Nat.le_of_ble_eq_true rfl) (by omega) (by rw [sw_old (by omega) h50, (kc.1 0 (by decide)).1]) rfl (c_jS_indexOf_0 kc h50 0 (by decide) (by decide) c hc) (fun v1 w1 h1 => ?_)
        obtain ⟨rfl, rfl⟩ := h1
        rw [show kLen 0 = 12 from rfl]
        rcases hix : kIx 0 c 12 0 with _ | j
        · show ab_Ex _ _ _ _ _ (.int (-1) :: _) _ _
          refine x_if_lt_t 42 (ab_dd tk_re_kindOf 20 rfl) (by decide) (by decide) ?_
          refine x_iconst 43 4 (ab_dd tk_re_kindOf 23 rfl) rfl (by decide) (x_topn 4 rfl ?_)
          exact x_iret (ab_dd tk_re_kindOf 24 rfl) ⟨rI (congrArg nI (by unfold kdC; rw [if_neg (fun z => by have := isSm_i.mp z; omega), if_neg (fun z => by have := isDg_i.mp z; omega), hix]; rfl)), rfl⟩
        · show ab_Ex _ _ _ _ _ (.int (nI j) :: _) _ _
          have hjl := kIx_lt hix
          refine x_if_lt_f 38 (ab_dd tk_re_kindOf 20 rfl) rfl 42 (by decide) (fun z => absurd ((nI_ltI (a := j) (b := 0) (by omega) (by omega)).mp z) (show ¬ (j < 0) by omega)) ?_
          refine x_iconst 39 3 (ab_dd tk_re_kindOf 21 rfl) rfl (by decide) (x_topn 3 rfl ?_)
          refine x_goto 43 (ab_dd tk_re_kindOf 22 rfl) (by decide) ?_
          exact x_iret (ab_dd tk_re_kindOf 24 rfl) ⟨rI (congrArg nI (by unfold kdC; rw [if_neg (fun z => by have := isSm_i.mp z; omega), if_neg (fun z => by have := isDg_i.mp z; omega), hix]; rfl)), rfl⟩
      · refine x_iconst 27 2 (ab_dd tk_re_kindOf 14 rfl) rfl (by decide) (x_topn 2 rfl ?_)
        exact x_iret (ab_dd tk_re_kindOf 15 rfl) ⟨rI (congrArg nI (by unfold kdC; rw [if_neg (fun z => by have := isSm_i.mp z; omega), if_pos (isDg_i.mpr ⟨by omega, by omega⟩)])), rfl⟩
  · refine x_iload_n 7 0 (ab_dd tk_re_kindOf 3 rfl) rfl rfl rfl ?_
    refine x_bipush 9 122 (ab_dd tk_re_kindOf 4 rfl) rfl (by decide) (x_topn 122 rfl ?_)
    refine xn_icmp_gt 12 14 (ab_dd tk_re_kindOf 5 rfl) rfl (by decide) (by omega) (by omega) (fun h9 => ?_) (fun h9 => ?_)
    · refine x_iload_n 15 0 (ab_dd tk_re_kindOf 8 rfl) rfl rfl rfl ?_
      refine x_bipush 17 48 (ab_dd tk_re_kindOf 9 rfl) rfl (by decide) (x_topn 48 rfl ?_)
      refine xn_icmp_lt 20 28 (ab_dd tk_re_kindOf 10 rfl) rfl (by decide) (by omega) (by omega) (fun h17 => ?_) (fun h17 => ?_)
      · refine x_ldcS 30 0 (ab_dd tk_re_kindOf 16 rfl) rfl (by decide) (List.mem_of_getElem? (i := 0) rfl) ?_
        refine x_iload_n 31 0 (ab_dd tk_re_kindOf 17 rfl) rfl rfl rfl ?_
        refine x_i2c 32 (ab_dd tk_re_kindOf 18 rfl) rfl (x_topn c (i2cN hc) ?_)
        refine x_callT 35 M_jS_indexOf_0 3 1 [_] (ab_dd tk_re_kindOf 19 rfl) rfl (by first | decide | omega) K_jS_indexOf_0 V_jS_indexOf_0.1 V_jS_indexOf_0.2 (ml_T L_re_228 rfl) rfl (Nat.le_of_ble_eq_true rfl) (by omega) (by rw [sw_old (by omega) h50, (kc.1 0 (by decide)).1]) rfl (c_jS_indexOf_0 kc h50 0 (by decide) (by decide) c hc) (fun v1 w1 h1 => ?_)
        obtain ⟨rfl, rfl⟩ := h1
        rw [show kLen 0 = 12 from rfl]
        rcases hix : kIx 0 c 12 0 with _ | j
        · show ab_Ex _ _ _ _ _ (.int (-1) :: _) _ _
          refine x_if_lt_t 42 (ab_dd tk_re_kindOf 20 rfl) (by decide) (by decide) ?_
          refine x_iconst 43 4 (ab_dd tk_re_kindOf 23 rfl) rfl (by decide) (x_topn 4 rfl ?_)
          exact x_iret (ab_dd tk_re_kindOf 24 rfl) ⟨rI (congrArg nI (by unfold kdC; rw [if_neg (fun z => by have := isSm_i.mp z; omega), if_neg (fun z => by have := isDg_i.mp z; omega), hix]; rfl)), rfl⟩
        · show ab_Ex _ _ _ _ _ (.int (nI j) :: _) _ _
          have hjl := kIx_lt hix
          refine x_if_lt_f 38 (ab_dd tk_re_kindOf 20 rfl) rfl 42 (by decide) (fun z => absurd ((nI_ltI (a := j) (b := 0) (by omega) (by omega)).mp z) (show ¬ (j < 0) by omega)) ?_
          refine x_iconst 39 3 (ab_dd tk_re_kindOf 21 rfl) rfl (by decide) (x_topn 3 rfl ?_)
          refine x_goto 43 (ab_dd tk_re_kindOf 22 rfl) (by decide) ?_
          exact x_iret (ab_dd tk_re_kindOf 24 rfl) ⟨rI (congrArg nI (by unfold kdC; rw [if_neg (fun z => by have := isSm_i.mp z; omega), if_neg (fun z => by have := isDg_i.mp z; omega), hix]; rfl)), rfl⟩
      · refine x_iload_n 21 0 (ab_dd tk_re_kindOf 11 rfl) rfl rfl rfl ?_
        refine x_bipush 23 57 (ab_dd tk_re_kindOf 12 rfl) rfl (by decide) (x_topn 57 rfl ?_)
        refine xn_icmp_gt 26 28 (ab_dd tk_re_kindOf 13 rfl) rfl (by decide) (by omega) (by omega) (fun h23 => ?_) (fun h23 => ?_)
        · refine x_ldcS 30 0 (ab_dd tk_re_kindOf 16 rfl) rfl (by decide) (List.mem_of_getElem? (i := 0) rfl) ?_
          refine x_iload_n 31 0 (ab_dd tk_re_kindOf 17 rfl) rfl rfl rfl ?_
          refine x_i2c 32 (ab_dd tk_re_kindOf 18 rfl) rfl (x_topn c (i2cN hc) ?_)
          refine x_callT 35 M_jS_indexOf_0 3 1 [_] (ab_dd tk_re_kindOf 19 rfl) rfl (by first | decide | omega) K_jS_indexOf_0 V_jS_indexOf_0.1 V_jS_indexOf_0.2 (ml_T L_re_228 rfl) rfl (Nat.le_of_ble_eq_true rfl) (by omega) (by rw [sw_old (by omega) h50, (kc.1 0 (by decide)).1]) rfl (c_jS_indexOf_0 kc h50 0 (by decide) (by decide) c hc) (fun v1 w1 h1 => ?_)
          obtain ⟨rfl, rfl⟩ := h1
          rw [show kLen 0 = 12 from rfl]
          rcases hix : kIx 0 c 12 0 with _ | j
          · show ab_Ex _ _ _ _ _ (.int (-1) :: _) _ _
            refine x_if_lt_t 42 (ab_dd tk_re_kindOf 20 rfl) (by decide) (by decide) ?_
            refine x_iconst 43 4 (ab_dd tk_re_kindOf 23 rfl) rfl (by decide) (x_topn 4 rfl ?_)
            exact x_iret (ab_dd tk_re_kindOf 24 rfl) ⟨rI (congrArg nI (by unfold kdC; rw [if_neg (fun z => by have := isSm_i.mp z; omega), if_neg (fun z => by have := isDg_i.mp z; omega), hix]; rfl)), rfl⟩
          · show ab_Ex _ _ _ _ _ (.int (nI j) :: _) _ _
            have hjl := kIx_lt hix
            refine x_if_lt_f 38 (ab_dd tk_re_kindOf 20 rfl) rfl 42 (by decide) (fun z => absurd ((nI_ltI (a := j) (b := 0) (by omega) (by omega)).mp z) (show ¬ (j < 0) by omega)) ?_
            refine x_iconst 39 3 (ab_dd tk_re_kindOf 21 rfl) rfl (by decide) (x_topn 3 rfl ?_)
            refine x_goto 43 (ab_dd tk_re_kindOf 22 rfl) (by decide) ?_
            exact x_iret (ab_dd tk_re_kindOf 24 rfl) ⟨rI (congrArg nI (by unfold kdC; rw [if_neg (fun z => by have := isSm_i.mp z; omega), if_neg (fun z => by have := isDg_i.mp z; omega), hix]; rfl)), rfl⟩
        · refine x_iconst 27 2 (ab_dd tk_re_kindOf 14 rfl) rfl (by decide) (x_topn 2 rfl ?_)
          exact x_iret (ab_dd tk_re_kindOf 15 rfl) ⟨rI (congrArg nI (by unfold kdC; rw [if_neg (fun z => by have := isSm_i.mp z; omega), if_pos (isDg_i.mpr ⟨by omega, by omega⟩)])), rfl⟩
    · refine x_iconst 13 1 (ab_dd tk_re_kindOf 6 rfl) rfl (by decide) (x_topn 1 rfl ?_)
      exact x_iret (ab_dd tk_re_kindOf 7 rfl) ⟨rI (congrArg nI (by unfold kdC; rw [if_pos (isSm_i.mpr ⟨by omega, by omega⟩)])), rfl⟩
def tb_re_advance : List (Nat × Instr × Nat) := [(0, .aload_n 0, 1), (1, .getfield 19, 3), (4, .aload_n 0, 1), (5, .getfield 15, 3), (8, .if_icmp .ge 44, 3), (11, .aload_n 0, 1), (12, .getfield 9, 3), (15, .aload_n 0, 1), (16, .getfield 19, 3), (19, .baload, 1), (20, .bipush 10, 2), (22, .if_icmp .eq 17, 3), (25, .aload_n 0, 1), (26, .getfield 9, 3), (29, .aload_n 0, 1), (30, .getfield 19, 3), (33, .baload, 1), (34, .bipush 32, 2), (36, .if_icmp .ne 16, 3), (39, .aload_n 0, 1), (40, .dup, 1), (41, .getfield 19, 3), (44, .iconst 1, 1), (45, .iadd, 1), (46, .putfield 19, 3), (49, .goto (-49), 3), (52, .aload_n 0, 1), (53, .aload_n 0, 1), (54, .getfield 19, 3), (57, .putfield 22, 3), (60, .aload_n 0, 1), (61, .getfield 19, 3), (64, .aload_n 0, 1), (65, .getfield 15, 3), (68, .if_icmp .lt 9, 3), (71, .aload_n 0, 1), (72, .iconst 0, 1), (73, .putfield 25, 3), (76, .return_, 1), (77, .aload_n 0, 1), (78, .aload_n 0, 1), (79, .getfield 9, 3), (82, .aload_n 0, 1), (83, .getfield 19, 3), (86, .baload, 1), (87, .sipush 255, 3), (90, .iand, 1), (91, .putfield 28, 3), (94, .aload_n 0, 1), (95, .aload_n 0, 1), (96, .getfield 28, 3), (99, .invokestatic 223, 3), (102, .putfield 25, 3), (105, .aload_n 0, 1), (106, .dup, 1), (107, .getfield 19, 3), (110, .iconst 1, 1), (111, .iadd, 1), (112, .putfield 19, 3), (115, .aload_n 0, 1), (116, .getfield 25, 3), (119, .iconst 2, 1), (120, .if_icmp .ne 14, 3), (123, .aload_n 0, 1), (124, .dup, 1), (125, .getfield 28, 3), (128, .bipush 48, 2), (130, .isub, 1), (131, .putfield 28, 3), (134, .aload_n 0, 1), (135, .getfield 19, 3), (138, .aload_n 0, 1), (139, .getfield 15, 3), (142, .if_icmp .ge 97, 3), (145, .aload_n 0, 1), (146, .getfield 25, 3), (149, .iconst 1, 1), (150, .if_icmp .eq 11, 3), (153, .aload_n 0, 1), (154, .getfield 25, 3), (157, .iconst 2, 1), (158, .if_icmp .ne 81, 3), (161, .aload_n 0, 1), (162, .getfield 9, 3), (165, .aload_n 0, 1), (166, .getfield 19, 3), (169, .baload, 1), (170, .sipush 255, 3), (173, .iand, 1), (174, .invokestatic 223, 3), (177, .aload_n 0, 1), (178, .getfield 25, 3), (181, .if_icmp .ne 58, 3), (184, .aload_n 0, 1), (185, .aload_n 0, 1), (186, .getfield 25, 3), (189, .iconst 2, 1), (190, .if_icmp .ne 32, 3), (193, .aload_n 0, 1), (194, .getfield 28, 3), (197, .sipush 999, 3), (200, .invokestatic 58, 3), (203, .bipush 10, 2), (205, .imul, 1), (206, .aload_n 0, 1), (207, .getfield 9, 3), (210, .aload_n 0, 1), (211, .getfield 19, 3), (214, .baload, 1), (215, .iadd, 1), (216, .bipush 48, 2), (218, .isub, 1), (219, .goto 4, 3), (222, .iconst 0, 1), (223, .putfield 28, 3), (226, .aload_n 0, 1), (227, .dup, 1), (228, .getfield 19, 3), (231, .iconst 1, 1), (232, .iadd, 1), (233, .putfield 19, 3), (236, .goto (-102), 3), (239, .aload_n 0, 1), (240, .getfield 25, 3), (243, .iconst 2, 1), (244, .if_icmp .ne 21, 3), (247, .aload_n 0, 1), (248, .getfield 19, 3), (251, .aload_n 0, 1), (252, .getfield 22, 3), (255, .isub, 1), (256, .iconst 3, 1), (257, .if_icmp .le 8, 3), (260, .aload_n 0, 1), (261, .iconst 4, 1), (262, .putfield 25, 3), (265, .return_, 1)]
theorem tk_re_advance : ∀ q ∈ tb_re_advance, decode M_re_advance.2.1 q.1 = .ok q.2 := by decide +kernel
theorem c_re_advance {G : ab_G} {S : ab_S} (hx : xSh S) (kc : kSh S.1) {tp : Nat → Nat} (hB : bT S tp) {n : Nat} (hn : n ≤ 900) (ht : sP S 72 0 = some 51) (h1n : sI S 72 1 = nI n) (p : Nat) (hp : p ≤ n) (h2p : sI S 72 2 = nI p) : ab_C G 5 M_re_advance [.ref 72] (sw S) (fun v w' => v = none ∧ ∃ S', w' = sw S' ∧ sEq [72] S S' ∧ qT S' tp n p ∧ ∀ j, (j < 2 ∨ 5 < j) → sI S' 72 j = sI S 72 j) := by
  refine x_enter [some (.ref 72)] (by decide) (Nat.le_of_ble_eq_true rfl) rfl (fun v w' h => by obtain ⟨rfl, -⟩ := h; trivial) ?_
  have hS := tS_b tp hp
  have hE := tE_b tp hp
  have kc1 : ∀ {S1 : ab_S}, sEq [72] S S1 → kSh S1.1 := fun {S1} e => by rw [e.1]; exact kc
  have h501 : ∀ {S1 : ab_S}, sEq [72] S S1 → 50 ≤ sn S1 := fun {S1} e => by rw [e.2.2.2.2.2.1]; exact Nat.le_trans (by decide) hx.1
  have ht1 : ∀ {S1 : ab_S}, sEq [72] S S1 → sP S1 72 0 = some 51 := fun {S1} e => by rw [e.2.2.2.2.1]; exact ht
  have hB1 : ∀ {S1 : ab_S}, sEq [72] S S1 → bT S1 tp := fun {S1} e => hB.eq e (by decide)
  have fin : ∀ (S1 : ab_S) (K e : Nat) (v : Int32), K < 5 → e ≤ n → tS tp n p ≤ e → sEq [72] S S1 → (∀ j, (j < 2 ∨ 5 < j) → sI S1 72 j = sI S 72 j) → sI S1 72 2 = nI e → sI S1 72 3 = nI (tS tp n p) → sI S1 72 4 = nI K → sI S1 72 5 = v → e = tE tp n p → ((if K = 2 ∧ 3 < e - tS tp n p then 4 else K) = ckd (tK tp n p)) → (tK tp n p = 23 → v = nI (tN tp n p)) → (30 ≤ tK tp n p → v = nI (kB 0 (tK tp n p - 30))) → ab_Ex G 5 M_re_advance 239 [some (.ref 72)] [] (sw S1) (fun v w' => v = none ∧ ∃ S', w' = sw S' ∧ sEq [72] S S' ∧ qT S' tp n p ∧ ∀ j, (j < 2 ∨ 5 < j) → sI S' 72 j = sI S 72 j) := by
    intro S1 K e v hK he hqe hE1 hfr f2 f3 f4 f5 g1 g2 g3 g4
    have f1 : sI S1 72 1 = nI n := (hfr 1 (by omega)).trans h1n
    refine x_aload_n 240 0 (ab_dd tk_re_advance 122 rfl) rfl rfl rfl ?_
    refine t_getI 243 (ab_dd tk_re_advance 123 rfl) rfl F_re_25 (by decide) (Nat.lt_of_lt_of_le (by decide) (hx.eq hE1).1) ((hx.eq hE1).2.1 22 (by decide)) rfl (x_topn K f4 ?_)
    refine x_iconst 244 2 (ab_dd tk_re_advance 124 rfl) rfl (by decide) (x_topn 2 rfl ?_)
    refine xn_icmp_ne 247 265 (ab_dd tk_re_advance 125 rfl) rfl (by decide) (by omega) (by omega) (fun h244 => ?_) (fun h244 => ?_)
    · exact x_vret (ab_dd tk_re_advance 136 rfl) ⟨rfl, _, rfl, hE1, ⟨f2.trans (congrArg nI g1), f3, (f4.trans (congrArg nI ((if_neg (fun z => h244 z.1)).symm.trans g2))), fun z => f5.trans (g3 z), fun z => f5.trans (g4 z)⟩, hfr⟩
    · refine x_aload_n 248 0 (ab_dd tk_re_advance 126 rfl) rfl rfl rfl ?_
      refine t_getI 251 (ab_dd tk_re_advance 127 rfl) rfl F_re_19 (by decide) (Nat.lt_of_lt_of_le (by decide) (hx.eq hE1).1) ((hx.eq hE1).2.1 22 (by decide)) rfl (x_topn e f2 ?_)
      refine x_aload_n 252 0 (ab_dd tk_re_advance 128 rfl) rfl rfl rfl ?_
      refine t_getI 255 (ab_dd tk_re_advance 129 rfl) rfl F_re_22 (by decide) (Nat.lt_of_lt_of_le (by decide) (hx.eq hE1).1) ((hx.eq hE1).2.1 22 (by decide)) rfl (x_topn (tS tp n p) f3 ?_)
      refine x_isub 256 (ab_dd tk_re_advance 130 rfl) rfl (x_topn (e - (tS tp n p)) (pk_sub (by omega)) ?_)
      refine x_iconst 257 3 (ab_dd tk_re_advance 131 rfl) rfl (by decide) (x_topn 3 rfl ?_)
      refine xn_icmp_le 260 265 (ab_dd tk_re_advance 132 rfl) rfl (by decide) (by omega) (by omega) (fun h257 => ?_) (fun h257 => ?_)
      · exact x_vret (ab_dd tk_re_advance 136 rfl) ⟨rfl, _, rfl, hE1, ⟨f2.trans (congrArg nI g1), f3, (f4.trans (congrArg nI ((if_neg (fun z => by omega)).symm.trans g2))), fun z => f5.trans (g3 z), fun z => f5.trans (g4 z)⟩, hfr⟩
      · refine x_aload_n 261 0 (ab_dd tk_re_advance 133 rfl) rfl rfl rfl ?_
        refine x_iconst 262 4 (ab_dd tk_re_advance 134 rfl) rfl (by decide) (x_topn 4 rfl ?_)
        refine t_putI 265 (ab_dd tk_re_advance 135 rfl) rfl F_re_25 (by decide) (Nat.lt_of_lt_of_le (by decide) (hx.eq hE1).1) ((hx.eq hE1).2.1 22 (by decide)) rfl rfl rfl ?_
        exact x_vret (ab_dd tk_re_advance 136 rfl) ⟨rfl, _, rfl, (hE1.pI (by simp)), ⟨((gI_k (by decide)).trans f2).trans (congrArg nI g1), ((gI_k (by decide)).trans f3), (gI_s.trans (congrArg nI ((if_pos ⟨h244, by omega⟩).symm.trans g2))), fun z => ((gI_k (by decide)).trans f5).trans (g3 z), fun z => ((gI_k (by decide)).trans f5).trans (g4 z)⟩, (fun j hj => (gI_k (by omega)).trans (hfr j hj))⟩
  have scan : ∀ (K : Nat) (P : Nat → Bool), (K = 1 ∧ P = isSm ∨ K = 2 ∧ P = isDg) → (∀ c, c < 256 → (kdC c = K ↔ P c = true)) → (∀ e v, e = tE tp n p → (e - tS tp n p ≤ 3 → K = 2 → v = nI (dgV tp (tS tp n p) (e - tS tp n p))) → ((if K = 2 ∧ 3 < e - tS tp n p then 4 else K) = ckd (tK tp n p)) ∧ (tK tp n p = 23 → v = nI (tN tp n p)) ∧ (30 ≤ tK tp n p → v = nI (kB 0 (tK tp n p - 30)))) → ∀ (m e : Nat), e + m = n → tS tp n p < e → scn P tp m e = tE tp n p → (∀ i, tS tp n p ≤ i → i < e → P (tp i) = true) → ∀ (S1 : ab_S) (v : Nat), v < 10000 → (e - tS tp n p ≤ 3 → K = 2 → v = dgV tp (tS tp n p) (e - tS tp n p)) → sEq [72] S S1 → (∀ j, (j < 2 ∨ 5 < j) → sI S1 72 j = sI S 72 j) → sI S1 72 2 = nI e → sI S1 72 3 = nI (tS tp n p) → sI S1 72 4 = nI K → sI S1 72 5 = nI v → ab_Ex G 5 M_re_advance 134 [some (.ref 72)] [] (sw S1) (fun v w' => v = none ∧ ∃ S', w' = sw S' ∧ sEq [72] S S' ∧ qT S' tp n p ∧ ∀ j, (j < 2 ∨ 5 < j) → sI S' 72 j = sI S 72 j) := by
    intro K P hKP hP hend m
    have hK3 : K = 1 ∨ K = 2 := by omega
    induction m with
    | zero =>
      intro e he hqe hsc hal S1 v hv hdg hE1 hfr f2 f3 f4 f5
      have f1 : sI S1 72 1 = nI n := (hfr 1 (by omega)).trans h1n
      refine x_aload_n 135 0 (ab_dd tk_re_advance 69 rfl) rfl rfl rfl ?_
      refine t_getI 138 (ab_dd tk_re_advance 70 rfl) rfl F_re_19 (by decide) (Nat.lt_of_lt_of_le (by decide) (hx.eq hE1).1) ((hx.eq hE1).2.1 22 (by decide)) rfl (x_topn e f2 ?_)
      refine x_aload_n 139 0 (ab_dd tk_re_advance 71 rfl) rfl rfl rfl ?_
      refine t_getI 142 (ab_dd tk_re_advance 72 rfl) rfl F_re_15 (by decide) (Nat.lt_of_lt_of_le (by decide) (hx.eq hE1).1) ((hx.eq hE1).2.1 22 (by decide)) rfl (x_topn n f1 ?_)
      refine x_icmp_ge_t 239 (ab_dd tk_re_advance 73 rfl) (by decide) ((nI_leI (a := n) (b := e) (by omega) (by omega)).mpr (show n ≤ e by omega)) ?_
      obtain ⟨z1, z2, z3⟩ := hend e (nI v) hsc (fun y1 y2 => congrArg nI (hdg y1 y2))
      exact fin S1 K e (nI v) (by omega) (by omega) (by omega) hE1 hfr f2 f3 f4 f5 hsc z1 z2 z3
    | succ m ih =>
      intro e he hqe hsc hal S1 v hv hdg hE1 hfr f2 f3 f4 f5
      have f1 : sI S1 72 1 = nI n := (hfr 1 (by omega)).trans h1n
      have hb := hB1 hE1 e (by omega)
      have hbc := (hB1 hE1 e (by omega)).2
      by_cases hpe : P (tp e) = true
      · have hkd := (hP _ hbc).mpr hpe
        have hsc2 : scn P tp m (e + 1) = tE tp n p := by rw [← scn_y hpe]; exact hsc
        rcases hKP with ⟨hk1, hk2⟩ | ⟨hk1, hk2⟩
        · refine x_aload_n 135 0 (ab_dd tk_re_advance 69 rfl) rfl rfl rfl ?_
          refine t_getI 138 (ab_dd tk_re_advance 70 rfl) rfl F_re_19 (by decide) (Nat.lt_of_lt_of_le (by decide) (hx.eq hE1).1) ((hx.eq hE1).2.1 22 (by decide)) rfl (x_topn e f2 ?_)
          refine x_aload_n 139 0 (ab_dd tk_re_advance 71 rfl) rfl rfl rfl ?_
          refine t_getI 142 (ab_dd tk_re_advance 72 rfl) rfl F_re_15 (by decide) (Nat.lt_of_lt_of_le (by decide) (hx.eq hE1).1) ((hx.eq hE1).2.1 22 (by decide)) rfl (x_topn n f1 ?_)
          refine x_icmp_ge_f 145 (ab_dd tk_re_advance 73 rfl) rfl 239 (by decide) (fun z => absurd ((nI_leI (a := n) (b := e) (by omega) (by omega)).mp z) (show ¬ (n ≤ e) by omega)) ?_
          refine x_aload_n 146 0 (ab_dd tk_re_advance 74 rfl) rfl rfl rfl ?_
          refine t_getI 149 (ab_dd tk_re_advance 75 rfl) rfl F_re_25 (by decide) (Nat.lt_of_lt_of_le (by decide) (hx.eq hE1).1) ((hx.eq hE1).2.1 22 (by decide)) rfl (x_topn K f4 ?_)
          refine x_iconst 150 1 (ab_dd tk_re_advance 76 rfl) rfl (by decide) (x_topn 1 rfl ?_)
          refine x_icmp_eq_t 161 (ab_dd tk_re_advance 77 rfl) (by decide) ((nI_eq (a := K) (b := 1) (by omega) (by omega)).mpr (show K = 1 by omega)) ?_
          refine x_aload_n 162 0 (ab_dd tk_re_advance 82 rfl) rfl rfl rfl ?_
          refine t_getP 165 51 (ab_dd tk_re_advance 83 rfl) rfl F_re_9 (by decide) (Nat.lt_of_lt_of_le (by decide) (hx.eq hE1).1) ((hx.eq hE1).2.1 22 (by decide)) rfl (ht1 hE1) ?_
          refine x_aload_n 166 0 (ab_dd tk_re_advance 84 rfl) rfl rfl rfl ?_
          refine t_getI 169 (ab_dd tk_re_advance 85 rfl) rfl F_re_19 (by decide) (Nat.lt_of_lt_of_le (by decide) (hx.eq hE1).1) ((hx.eq hE1).2.1 22 (by decide)) rfl (x_topn e f2 ?_)
          refine t_bald 170 e (ab_dd tk_re_advance 86 rfl) rfl (by decide) (Nat.lt_of_lt_of_le (by decide) (hx.eq hE1).1) ((hx.eq hE1).2.1 1 (by decide)) rfl (by omega) (by decide) (x_topx (sB (tp e)) hb.1 ?_)
          refine x_sipush 173 255 (ab_dd tk_re_advance 87 rfl) rfl (by decide) (x_topn 255 rfl ?_)
          refine x_iand 174 (ab_dd tk_re_advance 88 rfl) rfl (x_topn (tp e) ((sB_ok hbc).1) ?_)
          refine x_callS 177 M_re_kindOf 4 1 [_] (ab_dd tk_re_advance 89 rfl) rfl (by first | decide | omega) K_re_kindOf T_re_kindOf L_re_223 rfl (Nat.le_of_ble_eq_true rfl) (c_re_kindOf (kc1 hE1) (h501 hE1) (tp e) hbc) (fun v1 w1 h1 => ?_)
          obtain ⟨rfl, rfl⟩ := h1
          have hkl := kdC_lt (tp e)
          refine x_aload_n 178 0 (ab_dd tk_re_advance 90 rfl) rfl rfl rfl ?_
          refine t_getI 181 (ab_dd tk_re_advance 91 rfl) rfl F_re_25 (by decide) (Nat.lt_of_lt_of_le (by decide) (hx.eq hE1).1) ((hx.eq hE1).2.1 22 (by decide)) rfl (x_topn K f4 ?_)
          refine x_icmp_ne_f 184 (ab_dd tk_re_advance 92 rfl) rfl 239 (by decide) ((nI_eq (a := (kdC (tp e))) (b := K) (by omega) (by omega)).mpr (show (kdC (tp e)) = K by omega)) ?_
          refine x_aload_n 185 0 (ab_dd tk_re_advance 93 rfl) rfl rfl rfl ?_
          refine x_aload_n 186 0 (ab_dd tk_re_advance 94 rfl) rfl rfl rfl ?_
          refine t_getI 189 (ab_dd tk_re_advance 95 rfl) rfl F_re_25 (by decide) (Nat.lt_of_lt_of_le (by decide) (hx.eq hE1).1) ((hx.eq hE1).2.1 22 (by decide)) rfl (x_topn K f4 ?_)
          refine x_iconst 190 2 (ab_dd tk_re_advance 96 rfl) rfl (by decide) (x_topn 2 rfl ?_)
          refine x_icmp_ne_t 222 (ab_dd tk_re_advance 97 rfl) (by decide) (fun z => absurd ((nI_eq (a := K) (b := 2) (by omega) (by omega)).mp z) (show ¬ (K = 2) by omega)) ?_
          refine x_iconst 223 0 (ab_dd tk_re_advance 113 rfl) rfl (by decide) (x_topn 0 rfl ?_)
          refine t_putI 226 (ab_dd tk_re_advance 114 rfl) rfl F_re_28 (by decide) (Nat.lt_of_lt_of_le (by decide) (hx.eq hE1).1) ((hx.eq hE1).2.1 22 (by decide)) rfl rfl rfl ?_
          refine x_aload_n 227 0 (ab_dd tk_re_advance 115 rfl) rfl rfl rfl ?_
          refine x_dup 228 (ab_dd tk_re_advance 116 rfl) rfl rfl ?_
          refine t_getI 231 (ab_dd tk_re_advance 117 rfl) rfl F_re_19 (by decide) (Nat.lt_of_lt_of_le (by decide) (hx.eq hE1).1) ((hx.eq hE1).2.1 22 (by decide)) rfl (x_topn e ((gI_k (by decide)).trans f2) ?_)
          refine x_iconst 232 1 (ab_dd tk_re_advance 118 rfl) rfl (by decide) (x_topn 1 rfl ?_)
          refine x_iadd 233 (ab_dd tk_re_advance 119 rfl) rfl (x_topn (e + 1) (nI_add _ _) ?_)
          refine t_putI 236 (ab_dd tk_re_advance 120 rfl) rfl F_re_19 (by decide) (Nat.lt_of_lt_of_le (by decide) (hx.eq hE1).1) ((hx.eq hE1).2.1 22 (by decide)) rfl rfl rfl ?_
          refine x_goto 134 (ab_dd tk_re_advance 121 rfl) (by decide) ?_
          exact ih (e + 1) (by omega) (by omega) hsc2 (fun i h1 h2 => by by_cases z : i = e; (· rw [z]; exact hpe); (· exact hal i h1 (by omega))) _ 0 (by omega) (fun _ y2 => by omega) ((hE1.pI (by simp)).pI (by simp)) (fun j hj => (gI_k (by omega)).trans ((gI_k (by omega)).trans (hfr j hj))) gI_s ((gI_k (by decide)).trans ((gI_k (by decide)).trans f3)) ((gI_k (by decide)).trans ((gI_k (by decide)).trans f4)) ((gI_k (by decide)).trans gI_s)
        · have hdd : isDg (tp e) = true := by rw [hk2] at hpe; exact hpe
          have hd2 := isDg_i.mp hdd
          have hsb : sI S1 51 e = nI (tp e) := hb.1.trans ((sB_ok hbc).2.2 (by omega))
          have hdgs : ∀ i, tS tp n p ≤ i → i < e → isDg (tp i) = true := fun i h1 h2 => by have z := hal i h1 h2; rw [hk2] at z; exact z
          refine x_aload_n 135 0 (ab_dd tk_re_advance 69 rfl) rfl rfl rfl ?_
          refine t_getI 138 (ab_dd tk_re_advance 70 rfl) rfl F_re_19 (by decide) (Nat.lt_of_lt_of_le (by decide) (hx.eq hE1).1) ((hx.eq hE1).2.1 22 (by decide)) rfl (x_topn e f2 ?_)
          refine x_aload_n 139 0 (ab_dd tk_re_advance 71 rfl) rfl rfl rfl ?_
          refine t_getI 142 (ab_dd tk_re_advance 72 rfl) rfl F_re_15 (by decide) (Nat.lt_of_lt_of_le (by decide) (hx.eq hE1).1) ((hx.eq hE1).2.1 22 (by decide)) rfl (x_topn n f1 ?_)
          refine x_icmp_ge_f 145 (ab_dd tk_re_advance 73 rfl) rfl 239 (by decide) (fun z => absurd ((nI_leI (a := n) (b := e) (by omega) (by omega)).mp z) (show ¬ (n ≤ e) by omega)) ?_
          refine x_aload_n 146 0 (ab_dd tk_re_advance 74 rfl) rfl rfl rfl ?_
          refine t_getI 149 (ab_dd tk_re_advance 75 rfl) rfl F_re_25 (by decide) (Nat.lt_of_lt_of_le (by decide) (hx.eq hE1).1) ((hx.eq hE1).2.1 22 (by decide)) rfl (x_topn K f4 ?_)
          refine x_iconst 150 1 (ab_dd tk_re_advance 76 rfl) rfl (by decide) (x_topn 1 rfl ?_)
          refine x_icmp_eq_f 153 (ab_dd tk_re_advance 77 rfl) rfl 161 (by decide) (fun z => absurd ((nI_eq (a := K) (b := 1) (by omega) (by omega)).mp z) (show ¬ (K = 1) by omega)) ?_
          refine x_aload_n 154 0 (ab_dd tk_re_advance 78 rfl) rfl rfl rfl ?_
          refine t_getI 157 (ab_dd tk_re_advance 79 rfl) rfl F_re_25 (by decide) (Nat.lt_of_lt_of_le (by decide) (hx.eq hE1).1) ((hx.eq hE1).2.1 22 (by decide)) rfl (x_topn K f4 ?_)
          refine x_iconst 158 2 (ab_dd tk_re_advance 80 rfl) rfl (by decide) (x_topn 2 rfl ?_)
          refine x_icmp_ne_f 161 (ab_dd tk_re_advance 81 rfl) rfl 239 (by decide) ((nI_eq (a := K) (b := 2) (by omega) (by omega)).mpr (show K = 2 by omega)) ?_
          refine x_aload_n 162 0 (ab_dd tk_re_advance 82 rfl) rfl rfl rfl ?_
          refine t_getP 165 51 (ab_dd tk_re_advance 83 rfl) rfl F_re_9 (by decide) (Nat.lt_of_lt_of_le (by decide) (hx.eq hE1).1) ((hx.eq hE1).2.1 22 (by decide)) rfl (ht1 hE1) ?_
          refine x_aload_n 166 0 (ab_dd tk_re_advance 84 rfl) rfl rfl rfl ?_
          refine t_getI 169 (ab_dd tk_re_advance 85 rfl) rfl F_re_19 (by decide) (Nat.lt_of_lt_of_le (by decide) (hx.eq hE1).1) ((hx.eq hE1).2.1 22 (by decide)) rfl (x_topn e f2 ?_)
          refine t_bald 170 e (ab_dd tk_re_advance 86 rfl) rfl (by decide) (Nat.lt_of_lt_of_le (by decide) (hx.eq hE1).1) ((hx.eq hE1).2.1 1 (by decide)) rfl (by omega) (by decide) (x_topx (sB (tp e)) hb.1 ?_)
          refine x_sipush 173 255 (ab_dd tk_re_advance 87 rfl) rfl (by decide) (x_topn 255 rfl ?_)
          refine x_iand 174 (ab_dd tk_re_advance 88 rfl) rfl (x_topn (tp e) ((sB_ok hbc).1) ?_)
          refine x_callS 177 M_re_kindOf 4 1 [_] (ab_dd tk_re_advance 89 rfl) rfl (by first | decide | omega) K_re_kindOf T_re_kindOf L_re_223 rfl (Nat.le_of_ble_eq_true rfl) (c_re_kindOf (kc1 hE1) (h501 hE1) (tp e) hbc) (fun v1 w1 h1 => ?_)
          obtain ⟨rfl, rfl⟩ := h1
          have hkl := kdC_lt (tp e)
          refine x_aload_n 178 0 (ab_dd tk_re_advance 90 rfl) rfl rfl rfl ?_
          refine t_getI 181 (ab_dd tk_re_advance 91 rfl) rfl F_re_25 (by decide) (Nat.lt_of_lt_of_le (by decide) (hx.eq hE1).1) ((hx.eq hE1).2.1 22 (by decide)) rfl (x_topn K f4 ?_)
          refine x_icmp_ne_f 184 (ab_dd tk_re_advance 92 rfl) rfl 239 (by decide) ((nI_eq (a := (kdC (tp e))) (b := K) (by omega) (by omega)).mpr (show (kdC (tp e)) = K by omega)) ?_
          refine x_aload_n 185 0 (ab_dd tk_re_advance 93 rfl) rfl rfl rfl ?_
          refine x_aload_n 186 0 (ab_dd tk_re_advance 94 rfl) rfl rfl rfl ?_
          refine t_getI 189 (ab_dd tk_re_advance 95 rfl) rfl F_re_25 (by decide) (Nat.lt_of_lt_of_le (by decide) (hx.eq hE1).1) ((hx.eq hE1).2.1 22 (by decide)) rfl (x_topn K f4 ?_)
          refine x_iconst 190 2 (ab_dd tk_re_advance 96 rfl) rfl (by decide) (x_topn 2 rfl ?_)
          refine x_icmp_ne_f 193 (ab_dd tk_re_advance 97 rfl) rfl 222 (by decide) ((nI_eq (a := K) (b := 2) (by omega) (by omega)).mpr (show K = 2 by omega)) ?_
          refine x_aload_n 194 0 (ab_dd tk_re_advance 98 rfl) rfl rfl rfl ?_
          refine t_getI 197 (ab_dd tk_re_advance 99 rfl) rfl F_re_28 (by decide) (Nat.lt_of_lt_of_le (by decide) (hx.eq hE1).1) ((hx.eq hE1).2.1 22 (by decide)) rfl (x_topn v f5 ?_)
          refine x_sipush 200 999 (ab_dd tk_re_advance 100 rfl) rfl (by decide) (x_topn 999 rfl ?_)
          refine x_callS 203 M_jM_min 0 2 [_, _] (ab_dd tk_re_advance 101 rfl) rfl (by first | decide | omega) K_jM_min T_jM_min L_re_58 rfl (Nat.le_of_ble_eq_true rfl) (w_min S1 v 999 (by omega) (by omega)) (fun v1 w1 h1 => ?_)
          obtain ⟨rfl, rfl⟩ := h1
          have hmn : (if v ≤ 999 then v else 999) ≤ 999 := by split <;> omega
          refine x_bipush 205 10 (ab_dd tk_re_advance 102 rfl) rfl (by decide) (x_topn 10 rfl ?_)
          refine x_imul 206 (ab_dd tk_re_advance 103 rfl) rfl (x_topn ((if v ≤ 999 then v else 999) * 10) (pk_mul _ _) ?_)
          refine x_aload_n 207 0 (ab_dd tk_re_advance 104 rfl) rfl rfl rfl ?_
          refine t_getP 210 51 (ab_dd tk_re_advance 105 rfl) rfl F_re_9 (by decide) (Nat.lt_of_lt_of_le (by decide) (hx.eq hE1).1) ((hx.eq hE1).2.1 22 (by decide)) rfl (ht1 hE1) ?_
          refine x_aload_n 211 0 (ab_dd tk_re_advance 106 rfl) rfl rfl rfl ?_
          refine t_getI 214 (ab_dd tk_re_advance 107 rfl) rfl F_re_19 (by decide) (Nat.lt_of_lt_of_le (by decide) (hx.eq hE1).1) ((hx.eq hE1).2.1 22 (by decide)) rfl (x_topn e f2 ?_)
          refine t_bald 215 e (ab_dd tk_re_advance 108 rfl) rfl (by decide) (Nat.lt_of_lt_of_le (by decide) (hx.eq hE1).1) ((hx.eq hE1).2.1 1 (by decide)) rfl (by omega) (by decide) (x_topn (tp e) hsb ?_)
          refine x_iadd 216 (ab_dd tk_re_advance 109 rfl) rfl (x_topn (((if v ≤ 999 then v else 999) * 10) + (tp e)) (nI_add _ _) ?_)
          refine x_bipush 218 48 (ab_dd tk_re_advance 110 rfl) rfl (by decide) (x_topn 48 rfl ?_)
          refine x_isub 219 (ab_dd tk_re_advance 111 rfl) rfl (x_topn ((((if v ≤ 999 then v else 999) * 10) + (tp e)) - 48) (pk_sub (by omega)) ?_)
          refine x_goto 223 (ab_dd tk_re_advance 112 rfl) (by decide) ?_
          refine t_putI 226 (ab_dd tk_re_advance 114 rfl) rfl F_re_28 (by decide) (Nat.lt_of_lt_of_le (by decide) (hx.eq hE1).1) ((hx.eq hE1).2.1 22 (by decide)) rfl rfl rfl ?_
          refine x_aload_n 227 0 (ab_dd tk_re_advance 115 rfl) rfl rfl rfl ?_
          refine x_dup 228 (ab_dd tk_re_advance 116 rfl) rfl rfl ?_
          refine t_getI 231 (ab_dd tk_re_advance 117 rfl) rfl F_re_19 (by decide) (Nat.lt_of_lt_of_le (by decide) (hx.eq hE1).1) ((hx.eq hE1).2.1 22 (by decide)) rfl (x_topn e ((gI_k (by decide)).trans f2) ?_)
          refine x_iconst 232 1 (ab_dd tk_re_advance 118 rfl) rfl (by decide) (x_topn 1 rfl ?_)
          refine x_iadd 233 (ab_dd tk_re_advance 119 rfl) rfl (x_topn (e + 1) (nI_add _ _) ?_)
          refine t_putI 236 (ab_dd tk_re_advance 120 rfl) rfl F_re_19 (by decide) (Nat.lt_of_lt_of_le (by decide) (hx.eq hE1).1) ((hx.eq hE1).2.1 22 (by decide)) rfl rfl rfl ?_
          refine x_goto 134 (ab_dd tk_re_advance 121 rfl) (by decide) ?_
          exact ih (e + 1) (by omega) (by omega) hsc2 (fun i h1 h2 => by by_cases z : i = e; (· rw [z]; exact hpe); (· exact hal i h1 (by omega))) _ ((if v ≤ 999 then v else 999) * 10 + tp e - 48) (by split <;> omega) (fun y1 y2 => by
            have z := hdg (by omega) y2
            rw [show e + 1 - tS tp n p = (e - tS tp n p) + 1 by omega]
            show _ = 10 * dgV tp (tS tp n p) (e - tS tp n p) + (tp (tS tp n p + (e - tS tp n p)) - 48)
            have hl : dgV tp (tS tp n p) (e - tS tp n p) < 10 ^ (e - tS tp n p) := dgV_lt _ (fun i hi => hdgs (tS tp n p + i) (by omega) (by omega))
            have hl2 : 10 ^ (e - tS tp n p) ≤ 10 ^ 2 := Nat.pow_le_pow_right (by decide) (by omega)
            rw [← z, show tS tp n p + (e - tS tp n p) = e by omega, if_pos (by omega)]
            omega) ((hE1.pI (by simp)).pI (by simp)) (fun j hj => (gI_k (by omega)).trans ((gI_k (by omega)).trans (hfr j hj))) gI_s ((gI_k (by decide)).trans ((gI_k (by decide)).trans f3)) ((gI_k (by decide)).trans ((gI_k (by decide)).trans f4)) ((gI_k (by decide)).trans gI_s)
      · have hkd : kdC (tp e) ≠ K := fun z => hpe ((hP _ hbc).mp z)
        have hsc2 : e = tE tp n p := by rw [← hsc]; exact (scn_n hpe).symm
        refine x_aload_n 135 0 (ab_dd tk_re_advance 69 rfl) rfl rfl rfl ?_
        refine t_getI 138 (ab_dd tk_re_advance 70 rfl) rfl F_re_19 (by decide) (Nat.lt_of_lt_of_le (by decide) (hx.eq hE1).1) ((hx.eq hE1).2.1 22 (by decide)) rfl (x_topn e f2 ?_)
        refine x_aload_n 139 0 (ab_dd tk_re_advance 71 rfl) rfl rfl rfl ?_
        refine t_getI 142 (ab_dd tk_re_advance 72 rfl) rfl F_re_15 (by decide) (Nat.lt_of_lt_of_le (by decide) (hx.eq hE1).1) ((hx.eq hE1).2.1 22 (by decide)) rfl (x_topn n f1 ?_)
        refine x_icmp_ge_f 145 (ab_dd tk_re_advance 73 rfl) rfl 239 (by decide) (fun z => absurd ((nI_leI (a := n) (b := e) (by omega) (by omega)).mp z) (show ¬ (n ≤ e) by omega)) ?_
        refine x_aload_n 146 0 (ab_dd tk_re_advance 74 rfl) rfl rfl rfl ?_
        refine t_getI 149 (ab_dd tk_re_advance 75 rfl) rfl F_re_25 (by decide) (Nat.lt_of_lt_of_le (by decide) (hx.eq hE1).1) ((hx.eq hE1).2.1 22 (by decide)) rfl (x_topn K f4 ?_)
        refine x_iconst 150 1 (ab_dd tk_re_advance 76 rfl) rfl (by decide) (x_topn 1 rfl ?_)
        refine xn_icmp_eq 153 161 (ab_dd tk_re_advance 77 rfl) rfl (by decide) (by omega) (by omega) (fun h150 => ?_) (fun h150 => ?_)
        · refine x_aload_n 162 0 (ab_dd tk_re_advance 82 rfl) rfl rfl rfl ?_
          refine t_getP 165 51 (ab_dd tk_re_advance 83 rfl) rfl F_re_9 (by decide) (Nat.lt_of_lt_of_le (by decide) (hx.eq hE1).1) ((hx.eq hE1).2.1 22 (by decide)) rfl (ht1 hE1) ?_
          refine x_aload_n 166 0 (ab_dd tk_re_advance 84 rfl) rfl rfl rfl ?_
          refine t_getI 169 (ab_dd tk_re_advance 85 rfl) rfl F_re_19 (by decide) (Nat.lt_of_lt_of_le (by decide) (hx.eq hE1).1) ((hx.eq hE1).2.1 22 (by decide)) rfl (x_topn e f2 ?_)
          refine t_bald 170 e (ab_dd tk_re_advance 86 rfl) rfl (by decide) (Nat.lt_of_lt_of_le (by decide) (hx.eq hE1).1) ((hx.eq hE1).2.1 1 (by decide)) rfl (by omega) (by decide) (x_topx (sB (tp e)) hb.1 ?_)
          refine x_sipush 173 255 (ab_dd tk_re_advance 87 rfl) rfl (by decide) (x_topn 255 rfl ?_)
          refine x_iand 174 (ab_dd tk_re_advance 88 rfl) rfl (x_topn (tp e) ((sB_ok hbc).1) ?_)
          refine x_callS 177 M_re_kindOf 4 1 [_] (ab_dd tk_re_advance 89 rfl) rfl (by first | decide | omega) K_re_kindOf T_re_kindOf L_re_223 rfl (Nat.le_of_ble_eq_true rfl) (c_re_kindOf (kc1 hE1) (h501 hE1) (tp e) hbc) (fun v1 w1 h1 => ?_)
          obtain ⟨rfl, rfl⟩ := h1
          have hkl := kdC_lt (tp e)
          refine x_aload_n 178 0 (ab_dd tk_re_advance 90 rfl) rfl rfl rfl ?_
          refine t_getI 181 (ab_dd tk_re_advance 91 rfl) rfl F_re_25 (by decide) (Nat.lt_of_lt_of_le (by decide) (hx.eq hE1).1) ((hx.eq hE1).2.1 22 (by decide)) rfl (x_topn K f4 ?_)
          refine x_icmp_ne_t 239 (ab_dd tk_re_advance 92 rfl) (by decide) (fun z => absurd ((nI_eq (a := (kdC (tp e))) (b := K) (by omega) (by omega)).mp z) (show ¬ ((kdC (tp e)) = K) by omega)) ?_
          obtain ⟨z1, z2, z3⟩ := hend e (nI v) hsc2 (fun y1 y2 => congrArg nI (hdg y1 y2))
          exact fin S1 K e (nI v) (by omega) (by omega) (by omega) hE1 hfr f2 f3 f4 f5 hsc2 z1 z2 z3
        · refine x_aload_n 154 0 (ab_dd tk_re_advance 78 rfl) rfl rfl rfl ?_
          refine t_getI 157 (ab_dd tk_re_advance 79 rfl) rfl F_re_25 (by decide) (Nat.lt_of_lt_of_le (by decide) (hx.eq hE1).1) ((hx.eq hE1).2.1 22 (by decide)) rfl (x_topn K f4 ?_)
          refine x_iconst 158 2 (ab_dd tk_re_advance 80 rfl) rfl (by decide) (x_topn 2 rfl ?_)
          refine x_icmp_ne_f 161 (ab_dd tk_re_advance 81 rfl) rfl 239 (by decide) ((nI_eq (a := K) (b := 2) (by omega) (by omega)).mpr (show K = 2 by omega)) ?_
          refine x_aload_n 162 0 (ab_dd tk_re_advance 82 rfl) rfl rfl rfl ?_
          refine t_getP 165 51 (ab_dd tk_re_advance 83 rfl) rfl F_re_9 (by decide) (Nat.lt_of_lt_of_le (by decide) (hx.eq hE1).1) ((hx.eq hE1).2.1 22 (by decide)) rfl (ht1 hE1) ?_
          refine x_aload_n 166 0 (ab_dd tk_re_advance 84 rfl) rfl rfl rfl ?_
          refine t_getI 169 (ab_dd tk_re_advance 85 rfl) rfl F_re_19 (by decide) (Nat.lt_of_lt_of_le (by decide) (hx.eq hE1).1) ((hx.eq hE1).2.1 22 (by decide)) rfl (x_topn e f2 ?_)
          refine t_bald 170 e (ab_dd tk_re_advance 86 rfl) rfl (by decide) (Nat.lt_of_lt_of_le (by decide) (hx.eq hE1).1) ((hx.eq hE1).2.1 1 (by decide)) rfl (by omega) (by decide) (x_topx (sB (tp e)) hb.1 ?_)
          refine x_sipush 173 255 (ab_dd tk_re_advance 87 rfl) rfl (by decide) (x_topn 255 rfl ?_)
          refine x_iand 174 (ab_dd tk_re_advance 88 rfl) rfl (x_topn (tp e) ((sB_ok hbc).1) ?_)
          refine x_callS 177 M_re_kindOf 4 1 [_] (ab_dd tk_re_advance 89 rfl) rfl (by first | decide | omega) K_re_kindOf T_re_kindOf L_re_223 rfl (Nat.le_of_ble_eq_true rfl) (c_re_kindOf (kc1 hE1) (h501 hE1) (tp e) hbc) (fun v1 w1 h1 => ?_)
          obtain ⟨rfl, rfl⟩ := h1
          have hkl := kdC_lt (tp e)
          refine x_aload_n 178 0 (ab_dd tk_re_advance 90 rfl) rfl rfl rfl ?_
          refine t_getI 181 (ab_dd tk_re_advance 91 rfl) rfl F_re_25 (by decide) (Nat.lt_of_lt_of_le (by decide) (hx.eq hE1).1) ((hx.eq hE1).2.1 22 (by decide)) rfl (x_topn K f4 ?_)
          refine x_icmp_ne_t 239 (ab_dd tk_re_advance 92 rfl) (by decide) (fun z => absurd ((nI_eq (a := (kdC (tp e))) (b := K) (by omega) (by omega)).mp z) (show ¬ ((kdC (tp e)) = K) by omega)) ?_
          obtain ⟨z1, z2, z3⟩ := hend e (nI v) hsc2 (fun y1 y2 => congrArg nI (hdg y1 y2))
          exact fin S1 K e (nI v) (by omega) (by omega) (by omega) hE1 hfr f2 f3 f4 f5 hsc2 z1 z2 z3
  have tok : ∀ (S1 : ab_S), tS tp n p < n → sEq [72] S S1 → (∀ j, (j < 2 ∨ 5 < j) → sI S1 72 j = sI S 72 j) → sI S1 72 2 = nI (tS tp n p) → sI S1 72 3 = nI (tS tp n p) → ab_Ex G 5 M_re_advance 77 [some (.ref 72)] [] (sw S1) (fun v w' => v = none ∧ ∃ S', w' = sw S' ∧ sEq [72] S S' ∧ qT S' tp n p ∧ ∀ j, (j < 2 ∨ 5 < j) → sI S' 72 j = sI S 72 j) := by
    intro S1 hqn hE1 hfr f2 f3
    have f1 : sI S1 72 1 = nI n := (hfr 1 (by omega)).trans h1n
    have hb := hB1 hE1 (tS tp n p) (by omega)
    have hbc := (hB1 hE1 (tS tp n p) (by omega)).2
    have hkl := kdC_lt (tp (tS tp n p))
    by_cases hsm : isSm (tp (tS tp n p)) = true
    · refine x_aload_n 78 0 (ab_dd tk_re_advance 39 rfl) rfl rfl rfl ?_
      refine x_aload_n 79 0 (ab_dd tk_re_advance 40 rfl) rfl rfl rfl ?_
      refine t_getP 82 51 (ab_dd tk_re_advance 41 rfl) rfl F_re_9 (by decide) (Nat.lt_of_lt_of_le (by decide) (hx.eq hE1).1) ((hx.eq hE1).2.1 22 (by decide)) rfl (ht1 hE1) ?_
      refine x_aload_n 83 0 (ab_dd tk_re_advance 42 rfl) rfl rfl rfl ?_
      refine t_getI 86 (ab_dd tk_re_advance 43 rfl) rfl F_re_19 (by decide) (Nat.lt_of_lt_of_le (by decide) (hx.eq hE1).1) ((hx.eq hE1).2.1 22 (by decide)) rfl (x_topn (tS tp n p) f2 ?_)
      refine t_bald 87 (tS tp n p) (ab_dd tk_re_advance 44 rfl) rfl (by decide) (Nat.lt_of_lt_of_le (by decide) (hx.eq hE1).1) ((hx.eq hE1).2.1 1 (by decide)) rfl (by omega) (by decide) (x_topx (sB (tp (tS tp n p))) hb.1 ?_)
      refine x_sipush 90 255 (ab_dd tk_re_advance 45 rfl) rfl (by decide) (x_topn 255 rfl ?_)
      refine x_iand 91 (ab_dd tk_re_advance 46 rfl) rfl (x_topn (tp (tS tp n p)) ((sB_ok hbc).1) ?_)
      refine t_putI 94 (ab_dd tk_re_advance 47 rfl) rfl F_re_28 (by decide) (Nat.lt_of_lt_of_le (by decide) (hx.eq hE1).1) ((hx.eq hE1).2.1 22 (by decide)) rfl rfl rfl ?_
      refine x_aload_n 95 0 (ab_dd tk_re_advance 48 rfl) rfl rfl rfl ?_
      refine x_aload_n 96 0 (ab_dd tk_re_advance 49 rfl) rfl rfl rfl ?_
      refine t_getI 99 (ab_dd tk_re_advance 50 rfl) rfl F_re_28 (by decide) (Nat.lt_of_lt_of_le (by decide) (hx.eq hE1).1) ((hx.eq hE1).2.1 22 (by decide)) rfl (x_topn (tp (tS tp n p)) gI_s ?_)
      refine x_callS 102 M_re_kindOf 4 1 [_] (ab_dd tk_re_advance 51 rfl) rfl (by first | decide | omega) K_re_kindOf T_re_kindOf L_re_223 rfl (Nat.le_of_ble_eq_true rfl) (c_re_kindOf (kc1 (hE1.pI (by simp))) (h501 (hE1.pI (by simp))) (tp (tS tp n p)) hbc) (fun v1 w1 h1 => ?_)
      obtain ⟨rfl, rfl⟩ := h1
      refine t_putI 105 (ab_dd tk_re_advance 52 rfl) rfl F_re_25 (by decide) (Nat.lt_of_lt_of_le (by decide) (hx.eq hE1).1) ((hx.eq hE1).2.1 22 (by decide)) rfl rfl rfl ?_
      refine x_aload_n 106 0 (ab_dd tk_re_advance 53 rfl) rfl rfl rfl ?_
      refine x_dup 107 (ab_dd tk_re_advance 54 rfl) rfl rfl ?_
      refine t_getI 110 (ab_dd tk_re_advance 55 rfl) rfl F_re_19 (by decide) (Nat.lt_of_lt_of_le (by decide) (hx.eq hE1).1) ((hx.eq hE1).2.1 22 (by decide)) rfl (x_topn (tS tp n p) ((gI_k (by decide)).trans ((gI_k (by decide)).trans f2)) ?_)
      refine x_iconst 111 1 (ab_dd tk_re_advance 56 rfl) rfl (by decide) (x_topn 1 rfl ?_)
      refine x_iadd 112 (ab_dd tk_re_advance 57 rfl) rfl (x_topn ((tS tp n p) + 1) (nI_add _ _) ?_)
      refine t_putI 115 (ab_dd tk_re_advance 58 rfl) rfl F_re_19 (by decide) (Nat.lt_of_lt_of_le (by decide) (hx.eq hE1).1) ((hx.eq hE1).2.1 22 (by decide)) rfl rfl rfl ?_
      refine x_aload_n 116 0 (ab_dd tk_re_advance 59 rfl) rfl rfl rfl ?_
      refine t_getI 119 (ab_dd tk_re_advance 60 rfl) rfl F_re_25 (by decide) (Nat.lt_of_lt_of_le (by decide) (hx.eq hE1).1) ((hx.eq hE1).2.1 22 (by decide)) rfl (x_topn (kdC (tp (tS tp n p))) ((gI_k (by decide)).trans gI_s) ?_)
      refine x_iconst 120 2 (ab_dd tk_re_advance 61 rfl) rfl (by decide) (x_topn 2 rfl ?_)
      refine x_icmp_ne_t 134 (ab_dd tk_re_advance 62 rfl) (by decide) (fun z => absurd ((nI_eq (a := (kdC (tp (tS tp n p)))) (b := 2) (by omega) (by omega)).mp z) (show ¬ ((kdC (tp (tS tp n p))) = 2) by (rw [kdC_w.mpr hsm]; decide))) ?_
      have hkd : kdC (tp (tS tp n p)) = 1 := kdC_w.mpr hsm
      rw [hkd]
      exact scan 1 isSm (Or.inl ⟨rfl, rfl⟩) (fun c _ => kdC_w) (fun e v he _ => by
        have hk := tK_w hqn hsm
        have hl : keyO tp (tS tp n p) (tE tp n p) < 23 := kyF_le tp _ _ 21 0 (by decide)
        have hne := keyO_ne tp (tS tp n p) (tE tp n p)
        refine ⟨?_, fun z => by omega, fun z => by omega⟩
        rw [if_neg (by omega)]
        unfold ckd
        rw [if_neg (by omega), if_neg (by omega), if_neg (by omega), if_pos (by omega)]) (n - tS tp n p - 1) (tS tp n p + 1) (by omega) (by omega) (by rw [tE_w hqn hsm, ← scn_y hsm]; congr 1; omega) (fun i h1 h2 => by rw [show i = tS tp n p by omega]; exact hsm) _ (tp (tS tp n p)) (by omega) (fun _ y => by omega) (((hE1.pI (by simp)).pI (by simp)).pI (by simp)) (fun j hj => ((gI_k (by omega)).trans ((gI_k (by omega)).trans ((gI_k (by omega)).trans (hfr j hj))))) gI_s ((gI_k (by decide)).trans ((gI_k (by decide)).trans ((gI_k (by decide)).trans f3))) ((gI_k (by decide)).trans gI_s) ((gI_k (by decide)).trans ((gI_k (by decide)).trans gI_s))
    · by_cases hdg : isDg (tp (tS tp n p)) = true
      · have hd2 := isDg_i.mp hdg
        have hkd2 : kdC (tp (tS tp n p)) = 2 := kdC_d.mpr ⟨hsm, hdg⟩
        refine x_aload_n 78 0 (ab_dd tk_re_advance 39 rfl) rfl rfl rfl ?_
        refine x_aload_n 79 0 (ab_dd tk_re_advance 40 rfl) rfl rfl rfl ?_
        refine t_getP 82 51 (ab_dd tk_re_advance 41 rfl) rfl F_re_9 (by decide) (Nat.lt_of_lt_of_le (by decide) (hx.eq hE1).1) ((hx.eq hE1).2.1 22 (by decide)) rfl (ht1 hE1) ?_
        refine x_aload_n 83 0 (ab_dd tk_re_advance 42 rfl) rfl rfl rfl ?_
        refine t_getI 86 (ab_dd tk_re_advance 43 rfl) rfl F_re_19 (by decide) (Nat.lt_of_lt_of_le (by decide) (hx.eq hE1).1) ((hx.eq hE1).2.1 22 (by decide)) rfl (x_topn (tS tp n p) f2 ?_)
        refine t_bald 87 (tS tp n p) (ab_dd tk_re_advance 44 rfl) rfl (by decide) (Nat.lt_of_lt_of_le (by decide) (hx.eq hE1).1) ((hx.eq hE1).2.1 1 (by decide)) rfl (by omega) (by decide) (x_topx (sB (tp (tS tp n p))) hb.1 ?_)
        refine x_sipush 90 255 (ab_dd tk_re_advance 45 rfl) rfl (by decide) (x_topn 255 rfl ?_)
        refine x_iand 91 (ab_dd tk_re_advance 46 rfl) rfl (x_topn (tp (tS tp n p)) ((sB_ok hbc).1) ?_)
        refine t_putI 94 (ab_dd tk_re_advance 47 rfl) rfl F_re_28 (by decide) (Nat.lt_of_lt_of_le (by decide) (hx.eq hE1).1) ((hx.eq hE1).2.1 22 (by decide)) rfl rfl rfl ?_
        refine x_aload_n 95 0 (ab_dd tk_re_advance 48 rfl) rfl rfl rfl ?_
        refine x_aload_n 96 0 (ab_dd tk_re_advance 49 rfl) rfl rfl rfl ?_
        refine t_getI 99 (ab_dd tk_re_advance 50 rfl) rfl F_re_28 (by decide) (Nat.lt_of_lt_of_le (by decide) (hx.eq hE1).1) ((hx.eq hE1).2.1 22 (by decide)) rfl (x_topn (tp (tS tp n p)) gI_s ?_)
        refine x_callS 102 M_re_kindOf 4 1 [_] (ab_dd tk_re_advance 51 rfl) rfl (by first | decide | omega) K_re_kindOf T_re_kindOf L_re_223 rfl (Nat.le_of_ble_eq_true rfl) (c_re_kindOf (kc1 (hE1.pI (by simp))) (h501 (hE1.pI (by simp))) (tp (tS tp n p)) hbc) (fun v1 w1 h1 => ?_)
        obtain ⟨rfl, rfl⟩ := h1
        refine t_putI 105 (ab_dd tk_re_advance 52 rfl) rfl F_re_25 (by decide) (Nat.lt_of_lt_of_le (by decide) (hx.eq hE1).1) ((hx.eq hE1).2.1 22 (by decide)) rfl rfl rfl ?_
        refine x_aload_n 106 0 (ab_dd tk_re_advance 53 rfl) rfl rfl rfl ?_
        refine x_dup 107 (ab_dd tk_re_advance 54 rfl) rfl rfl ?_
        refine t_getI 110 (ab_dd tk_re_advance 55 rfl) rfl F_re_19 (by decide) (Nat.lt_of_lt_of_le (by decide) (hx.eq hE1).1) ((hx.eq hE1).2.1 22 (by decide)) rfl (x_topn (tS tp n p) ((gI_k (by decide)).trans ((gI_k (by decide)).trans f2)) ?_)
        refine x_iconst 111 1 (ab_dd tk_re_advance 56 rfl) rfl (by decide) (x_topn 1 rfl ?_)
        refine x_iadd 112 (ab_dd tk_re_advance 57 rfl) rfl (x_topn ((tS tp n p) + 1) (nI_add _ _) ?_)
        refine t_putI 115 (ab_dd tk_re_advance 58 rfl) rfl F_re_19 (by decide) (Nat.lt_of_lt_of_le (by decide) (hx.eq hE1).1) ((hx.eq hE1).2.1 22 (by decide)) rfl rfl rfl ?_
        refine x_aload_n 116 0 (ab_dd tk_re_advance 59 rfl) rfl rfl rfl ?_
        refine t_getI 119 (ab_dd tk_re_advance 60 rfl) rfl F_re_25 (by decide) (Nat.lt_of_lt_of_le (by decide) (hx.eq hE1).1) ((hx.eq hE1).2.1 22 (by decide)) rfl (x_topn (kdC (tp (tS tp n p))) ((gI_k (by decide)).trans gI_s) ?_)
        refine x_iconst 120 2 (ab_dd tk_re_advance 61 rfl) rfl (by decide) (x_topn 2 rfl ?_)
        refine x_icmp_ne_f 123 (ab_dd tk_re_advance 62 rfl) rfl 134 (by decide) ((nI_eq (a := (kdC (tp (tS tp n p)))) (b := 2) (by omega) (by omega)).mpr (show (kdC (tp (tS tp n p))) = 2 by (rw [hkd2]))) ?_
        refine x_aload_n 124 0 (ab_dd tk_re_advance 63 rfl) rfl rfl rfl ?_
        refine x_dup 125 (ab_dd tk_re_advance 64 rfl) rfl rfl ?_
        refine t_getI 128 (ab_dd tk_re_advance 65 rfl) rfl F_re_28 (by decide) (Nat.lt_of_lt_of_le (by decide) (hx.eq hE1).1) ((hx.eq hE1).2.1 22 (by decide)) rfl (x_topn (tp (tS tp n p)) ((gI_k (by decide)).trans ((gI_k (by decide)).trans gI_s)) ?_)
        refine x_bipush 130 48 (ab_dd tk_re_advance 66 rfl) rfl (by decide) (x_topn 48 rfl ?_)
        refine x_isub 131 (ab_dd tk_re_advance 67 rfl) rfl (x_topn ((tp (tS tp n p)) - 48) (pk_sub (by omega)) ?_)
        refine t_putI 134 (ab_dd tk_re_advance 68 rfl) rfl F_re_28 (by decide) (Nat.lt_of_lt_of_le (by decide) (hx.eq hE1).1) ((hx.eq hE1).2.1 22 (by decide)) rfl rfl rfl ?_
        rw [hkd2]
        exact scan 2 isDg (Or.inr ⟨rfl, rfl⟩) (fun c _ => ⟨fun z => (kdC_d.mp z).2, fun z => kdC_d.mpr ⟨fun y => by have h1 := isSm_i.mp y; have h2 := isDg_i.mp z; omega, z⟩⟩) (fun e v he hv => by
          have hk := tK_d hqn hsm hdg
          by_cases z3 : 3 < tE tp n p - tS tp n p
          · rw [if_pos z3] at hk
            refine ⟨?_, fun z => by omega, fun z => by omega⟩
            rw [if_pos ⟨rfl, by omega⟩, hk]; rfl
          · rw [if_neg z3] at hk
            refine ⟨?_, fun z => ?_, fun z => by omega⟩
            · rw [if_neg (by omega), hk]; rfl
            · rw [hv (by omega) rfl, he]; rfl) (n - tS tp n p - 1) (tS tp n p + 1) (by omega) (by omega) (by rw [tE_d hqn hsm hdg, ← scn_y hdg]; congr 1; omega) (fun i h1 h2 => by rw [show i = tS tp n p by omega]; exact hdg) _ (tp (tS tp n p) - 48) (by omega) (fun _ _ => by
          rw [show tS tp n p + 1 - tS tp n p = 0 + 1 by omega]
          show _ = 10 * 0 + (tp (tS tp n p + 0) - 48)
          rw [Nat.add_zero]; omega) ((((hE1.pI (by simp)).pI (by simp)).pI (by simp)).pI (by simp)) (fun j hj => ((gI_k (by omega)).trans ((gI_k (by omega)).trans ((gI_k (by omega)).trans ((gI_k (by omega)).trans (hfr j hj)))))) ((gI_k (by decide)).trans gI_s) ((gI_k (by decide)).trans ((gI_k (by decide)).trans ((gI_k (by decide)).trans ((gI_k (by decide)).trans f3)))) ((gI_k (by decide)).trans ((gI_k (by decide)).trans gI_s)) gI_s
      · have hk1 : kdC (tp (tS tp n p)) ≠ 1 := fun z => hsm (kdC_w.mp z)
        have hk2 : kdC (tp (tS tp n p)) ≠ 2 := fun z => hdg (kdC_d.mp z).2
        have hk := tK_s hqn hsm hdg
        have hkv : kdC (tp (tS tp n p)) = ckd (tK tp n p) ∧ (30 ≤ tK tp n p → nI (tp (tS tp n p)) = nI (kB 0 (tK tp n p - 30))) := by
          unfold kdC
          rw [if_neg hsm, if_neg hdg, hk]
          rcases hix : kIx 0 (tp (tS tp n p)) 12 0 with _ | j
          · exact ⟨rfl, fun z => absurd (show 30 ≤ 25 from z) (by decide)⟩
          · have hjl := kIx_lt hix
            refine ⟨?_, fun _ => ?_⟩
            · show 3 = ckd (30 + j)
              unfold ckd
              rw [if_neg (by omega), if_neg (by omega), if_neg (by omega), if_neg (by omega)]
            · show _ = nI (kB 0 (30 + j - 30))
              rw [show 30 + j - 30 = j by omega, kIx_eq _ _ _ hix]
        have hne23 := tK_sne hqn hsm hdg
        refine x_aload_n 78 0 (ab_dd tk_re_advance 39 rfl) rfl rfl rfl ?_
        refine x_aload_n 79 0 (ab_dd tk_re_advance 40 rfl) rfl rfl rfl ?_
        refine t_getP 82 51 (ab_dd tk_re_advance 41 rfl) rfl F_re_9 (by decide) (Nat.lt_of_lt_of_le (by decide) (hx.eq hE1).1) ((hx.eq hE1).2.1 22 (by decide)) rfl (ht1 hE1) ?_
        refine x_aload_n 83 0 (ab_dd tk_re_advance 42 rfl) rfl rfl rfl ?_
        refine t_getI 86 (ab_dd tk_re_advance 43 rfl) rfl F_re_19 (by decide) (Nat.lt_of_lt_of_le (by decide) (hx.eq hE1).1) ((hx.eq hE1).2.1 22 (by decide)) rfl (x_topn (tS tp n p) f2 ?_)
        refine t_bald 87 (tS tp n p) (ab_dd tk_re_advance 44 rfl) rfl (by decide) (Nat.lt_of_lt_of_le (by decide) (hx.eq hE1).1) ((hx.eq hE1).2.1 1 (by decide)) rfl (by omega) (by decide) (x_topx (sB (tp (tS tp n p))) hb.1 ?_)
        refine x_sipush 90 255 (ab_dd tk_re_advance 45 rfl) rfl (by decide) (x_topn 255 rfl ?_)
        refine x_iand 91 (ab_dd tk_re_advance 46 rfl) rfl (x_topn (tp (tS tp n p)) ((sB_ok hbc).1) ?_)
        refine t_putI 94 (ab_dd tk_re_advance 47 rfl) rfl F_re_28 (by decide) (Nat.lt_of_lt_of_le (by decide) (hx.eq hE1).1) ((hx.eq hE1).2.1 22 (by decide)) rfl rfl rfl ?_
        refine x_aload_n 95 0 (ab_dd tk_re_advance 48 rfl) rfl rfl rfl ?_
        refine x_aload_n 96 0 (ab_dd tk_re_advance 49 rfl) rfl rfl rfl ?_
        refine t_getI 99 (ab_dd tk_re_advance 50 rfl) rfl F_re_28 (by decide) (Nat.lt_of_lt_of_le (by decide) (hx.eq hE1).1) ((hx.eq hE1).2.1 22 (by decide)) rfl (x_topn (tp (tS tp n p)) gI_s ?_)
        refine x_callS 102 M_re_kindOf 4 1 [_] (ab_dd tk_re_advance 51 rfl) rfl (by first | decide | omega) K_re_kindOf T_re_kindOf L_re_223 rfl (Nat.le_of_ble_eq_true rfl) (c_re_kindOf (kc1 (hE1.pI (by simp))) (h501 (hE1.pI (by simp))) (tp (tS tp n p)) hbc) (fun v1 w1 h1 => ?_)
        obtain ⟨rfl, rfl⟩ := h1
        refine t_putI 105 (ab_dd tk_re_advance 52 rfl) rfl F_re_25 (by decide) (Nat.lt_of_lt_of_le (by decide) (hx.eq hE1).1) ((hx.eq hE1).2.1 22 (by decide)) rfl rfl rfl ?_
        refine x_aload_n 106 0 (ab_dd tk_re_advance 53 rfl) rfl rfl rfl ?_
        refine x_dup 107 (ab_dd tk_re_advance 54 rfl) rfl rfl ?_
        refine t_getI 110 (ab_dd tk_re_advance 55 rfl) rfl F_re_19 (by decide) (Nat.lt_of_lt_of_le (by decide) (hx.eq hE1).1) ((hx.eq hE1).2.1 22 (by decide)) rfl (x_topn (tS tp n p) ((gI_k (by decide)).trans ((gI_k (by decide)).trans f2)) ?_)
        refine x_iconst 111 1 (ab_dd tk_re_advance 56 rfl) rfl (by decide) (x_topn 1 rfl ?_)
        refine x_iadd 112 (ab_dd tk_re_advance 57 rfl) rfl (x_topn ((tS tp n p) + 1) (nI_add _ _) ?_)
        refine t_putI 115 (ab_dd tk_re_advance 58 rfl) rfl F_re_19 (by decide) (Nat.lt_of_lt_of_le (by decide) (hx.eq hE1).1) ((hx.eq hE1).2.1 22 (by decide)) rfl rfl rfl ?_
        refine x_aload_n 116 0 (ab_dd tk_re_advance 59 rfl) rfl rfl rfl ?_
        refine t_getI 119 (ab_dd tk_re_advance 60 rfl) rfl F_re_25 (by decide) (Nat.lt_of_lt_of_le (by decide) (hx.eq hE1).1) ((hx.eq hE1).2.1 22 (by decide)) rfl (x_topn (kdC (tp (tS tp n p))) ((gI_k (by decide)).trans gI_s) ?_)
        refine x_iconst 120 2 (ab_dd tk_re_advance 61 rfl) rfl (by decide) (x_topn 2 rfl ?_)
        refine x_icmp_ne_t 134 (ab_dd tk_re_advance 62 rfl) (by decide) (fun z => absurd ((nI_eq (a := (kdC (tp (tS tp n p)))) (b := 2) (by omega) (by omega)).mp z) (show ¬ ((kdC (tp (tS tp n p))) = 2) by omega)) ?_
        refine x_aload_n 135 0 (ab_dd tk_re_advance 69 rfl) rfl rfl rfl ?_
        refine t_getI 138 (ab_dd tk_re_advance 70 rfl) rfl F_re_19 (by decide) (Nat.lt_of_lt_of_le (by decide) (hx.eq hE1).1) ((hx.eq hE1).2.1 22 (by decide)) rfl (x_topn ((tS tp n p) + 1) gI_s ?_)
        refine x_aload_n 139 0 (ab_dd tk_re_advance 71 rfl) rfl rfl rfl ?_
        refine t_getI 142 (ab_dd tk_re_advance 72 rfl) rfl F_re_15 (by decide) (Nat.lt_of_lt_of_le (by decide) (hx.eq hE1).1) ((hx.eq hE1).2.1 22 (by decide)) rfl (x_topn n ((gI_k (by decide)).trans ((gI_k (by decide)).trans ((gI_k (by decide)).trans f1))) ?_)
        refine xn_icmp_ge 145 239 (ab_dd tk_re_advance 73 rfl) rfl (by decide) (by omega) (by omega) (fun h142 => ?_) (fun h142 => ?_)
        · exact fin _ (kdC (tp (tS tp n p))) (tS tp n p + 1) (nI (tp (tS tp n p))) hkl (by omega) (by omega) (((hE1.pI (by simp)).pI (by simp)).pI (by simp)) (fun j hj => ((gI_k (by omega)).trans ((gI_k (by omega)).trans ((gI_k (by omega)).trans (hfr j hj))))) gI_s ((gI_k (by decide)).trans ((gI_k (by decide)).trans ((gI_k (by decide)).trans f3))) ((gI_k (by decide)).trans gI_s) ((gI_k (by decide)).trans ((gI_k (by decide)).trans gI_s)) (tE_s hqn hsm hdg).symm (by rw [if_neg (fun z => hk2 z.1)]; exact hkv.1) (fun z => absurd z hne23) hkv.2
        · refine x_aload_n 146 0 (ab_dd tk_re_advance 74 rfl) rfl rfl rfl ?_
          refine t_getI 149 (ab_dd tk_re_advance 75 rfl) rfl F_re_25 (by decide) (Nat.lt_of_lt_of_le (by decide) (hx.eq hE1).1) ((hx.eq hE1).2.1 22 (by decide)) rfl (x_topn (kdC (tp (tS tp n p))) ((gI_k (by decide)).trans gI_s) ?_)
          refine x_iconst 150 1 (ab_dd tk_re_advance 76 rfl) rfl (by decide) (x_topn 1 rfl ?_)
          refine x_icmp_eq_f 153 (ab_dd tk_re_advance 77 rfl) rfl 161 (by decide) (fun z => absurd ((nI_eq (a := (kdC (tp (tS tp n p)))) (b := 1) (by omega) (by omega)).mp z) (show ¬ ((kdC (tp (tS tp n p))) = 1) by omega)) ?_
          refine x_aload_n 154 0 (ab_dd tk_re_advance 78 rfl) rfl rfl rfl ?_
          refine t_getI 157 (ab_dd tk_re_advance 79 rfl) rfl F_re_25 (by decide) (Nat.lt_of_lt_of_le (by decide) (hx.eq hE1).1) ((hx.eq hE1).2.1 22 (by decide)) rfl (x_topn (kdC (tp (tS tp n p))) ((gI_k (by decide)).trans gI_s) ?_)
          refine x_iconst 158 2 (ab_dd tk_re_advance 80 rfl) rfl (by decide) (x_topn 2 rfl ?_)
          refine x_icmp_ne_t 239 (ab_dd tk_re_advance 81 rfl) (by decide) (fun z => absurd ((nI_eq (a := (kdC (tp (tS tp n p)))) (b := 2) (by omega) (by omega)).mp z) (show ¬ ((kdC (tp (tS tp n p))) = 2) by omega)) ?_
          exact fin _ (kdC (tp (tS tp n p))) (tS tp n p + 1) (nI (tp (tS tp n p))) hkl (by omega) (by omega) (((hE1.pI (by simp)).pI (by simp)).pI (by simp)) (fun j hj => ((gI_k (by omega)).trans ((gI_k (by omega)).trans ((gI_k (by omega)).trans (hfr j hj))))) gI_s ((gI_k (by decide)).trans ((gI_k (by decide)).trans ((gI_k (by decide)).trans f3))) ((gI_k (by decide)).trans gI_s) ((gI_k (by decide)).trans ((gI_k (by decide)).trans gI_s)) (tE_s hqn hsm hdg).symm (by rw [if_neg (fun z => hk2 z.1)]; exact hkv.1) (fun z => absurd z hne23) hkv.2
  have atS : ∀ (S1 : ab_S), sEq [72] S S1 → (∀ j, (j < 2 ∨ 5 < j) → sI S1 72 j = sI S 72 j) → sI S1 72 2 = nI (tS tp n p) → ab_Ex G 5 M_re_advance 52 [some (.ref 72)] [] (sw S1) (fun v w' => v = none ∧ ∃ S', w' = sw S' ∧ sEq [72] S S' ∧ qT S' tp n p ∧ ∀ j, (j < 2 ∨ 5 < j) → sI S' 72 j = sI S 72 j) := by
    intro S1 hE1 hfr f2
    have f1 : sI S1 72 1 = nI n := (hfr 1 (by omega)).trans h1n
    refine x_aload_n 53 0 (ab_dd tk_re_advance 26 rfl) rfl rfl rfl ?_
    refine x_aload_n 54 0 (ab_dd tk_re_advance 27 rfl) rfl rfl rfl ?_
    refine t_getI 57 (ab_dd tk_re_advance 28 rfl) rfl F_re_19 (by decide) (Nat.lt_of_lt_of_le (by decide) (hx.eq hE1).1) ((hx.eq hE1).2.1 22 (by decide)) rfl (x_topn (tS tp n p) f2 ?_)
    refine t_putI 60 (ab_dd tk_re_advance 29 rfl) rfl F_re_22 (by decide) (Nat.lt_of_lt_of_le (by decide) (hx.eq hE1).1) ((hx.eq hE1).2.1 22 (by decide)) rfl rfl rfl ?_
    refine x_aload_n 61 0 (ab_dd tk_re_advance 30 rfl) rfl rfl rfl ?_
    refine t_getI 64 (ab_dd tk_re_advance 31 rfl) rfl F_re_19 (by decide) (Nat.lt_of_lt_of_le (by decide) (hx.eq hE1).1) ((hx.eq hE1).2.1 22 (by decide)) rfl (x_topn (tS tp n p) ((gI_k (by decide)).trans f2) ?_)
    refine x_aload_n 65 0 (ab_dd tk_re_advance 32 rfl) rfl rfl rfl ?_
    refine t_getI 68 (ab_dd tk_re_advance 33 rfl) rfl F_re_15 (by decide) (Nat.lt_of_lt_of_le (by decide) (hx.eq hE1).1) ((hx.eq hE1).2.1 22 (by decide)) rfl (x_topn n ((gI_k (by decide)).trans f1) ?_)
    refine xn_icmp_lt 71 77 (ab_dd tk_re_advance 34 rfl) rfl (by decide) (by omega) (by omega) (fun h68 => ?_) (fun h68 => ?_)
    · exact tok _ (by omega) (hE1.pI (by simp)) (fun j hj => ((gI_k (by omega)).trans (hfr j hj))) ((gI_k (by decide)).trans f2) gI_s
    · refine x_aload_n 72 0 (ab_dd tk_re_advance 35 rfl) rfl rfl rfl ?_
      refine x_iconst 73 0 (ab_dd tk_re_advance 36 rfl) rfl (by decide) (x_topn 0 rfl ?_)
      refine t_putI 76 (ab_dd tk_re_advance 37 rfl) rfl F_re_25 (by decide) (Nat.lt_of_lt_of_le (by decide) (hx.eq hE1).1) ((hx.eq hE1).2.1 22 (by decide)) rfl rfl rfl ?_
      exact x_vret (ab_dd tk_re_advance 38 rfl) ⟨rfl, _, rfl, ((hE1.pI (by simp)).pI (by simp)), ⟨((gI_k (by decide)).trans ((gI_k (by decide)).trans f2)).trans (congrArg nI (tE_e (by omega)).symm), ((gI_k (by decide)).trans gI_s), gI_s.trans (congrArg nI (by rw [tK_e (by omega)]; rfl)), fun z => absurd z (by rw [tK_e (by omega)]; decide), fun z => absurd z (by rw [tK_e (by omega)]; decide)⟩, (fun j hj => ((gI_k (by omega)).trans ((gI_k (by omega)).trans (hfr j hj))))⟩
  have blanks : ∀ (m k : Nat), k + m = n → scn isBl tp m k = tS tp n p → ∀ (S1 : ab_S), sEq [72] S S1 → (∀ j, (j < 2 ∨ 5 < j) → sI S1 72 j = sI S 72 j) → sI S1 72 2 = nI k → ab_Ex G 5 M_re_advance 0 [some (.ref 72)] [] (sw S1) (fun v w' => v = none ∧ ∃ S', w' = sw S' ∧ sEq [72] S S' ∧ qT S' tp n p ∧ ∀ j, (j < 2 ∨ 5 < j) → sI S' 72 j = sI S 72 j) := by
    intro m
    induction m with
    | zero =>
      intro k hk hsc S1 hE1 hfr f2
      have f1 : sI S1 72 1 = nI n := (hfr 1 (by omega)).trans h1n
      have hkq : k = tS tp n p := hsc
      refine x_aload_n 1 0 (ab_dd tk_re_advance 0 rfl) rfl rfl rfl ?_
      refine t_getI 4 (ab_dd tk_re_advance 1 rfl) rfl F_re_19 (by decide) (Nat.lt_of_lt_of_le (by decide) (hx.eq hE1).1) ((hx.eq hE1).2.1 22 (by decide)) rfl (x_topn k f2 ?_)
      refine x_aload_n 5 0 (ab_dd tk_re_advance 2 rfl) rfl rfl rfl ?_
      refine t_getI 8 (ab_dd tk_re_advance 3 rfl) rfl F_re_15 (by decide) (Nat.lt_of_lt_of_le (by decide) (hx.eq hE1).1) ((hx.eq hE1).2.1 22 (by decide)) rfl (x_topn n f1 ?_)
      refine x_icmp_ge_t 52 (ab_dd tk_re_advance 4 rfl) (by decide) ((nI_leI (a := n) (b := k) (by omega) (by omega)).mpr (show n ≤ k by omega)) ?_
      exact atS S1 hE1 hfr (by rw [← hkq]; exact f2)
    | succ m ih =>
      intro k hk hsc S1 hE1 hfr f2
      have f1 : sI S1 72 1 = nI n := (hfr 1 (by omega)).trans h1n
      have hb := hB1 hE1 k (by omega)
      have hbc := (hB1 hE1 k (by omega)).2
      have hs10 := (sB_ok hbc).2.1 10 (by decide)
      have hs32 := (sB_ok hbc).2.1 32 (by decide)
      refine x_aload_n 1 0 (ab_dd tk_re_advance 0 rfl) rfl rfl rfl ?_
      refine t_getI 4 (ab_dd tk_re_advance 1 rfl) rfl F_re_19 (by decide) (Nat.lt_of_lt_of_le (by decide) (hx.eq hE1).1) ((hx.eq hE1).2.1 22 (by decide)) rfl (x_topn k f2 ?_)
      refine x_aload_n 5 0 (ab_dd tk_re_advance 2 rfl) rfl rfl rfl ?_
      refine t_getI 8 (ab_dd tk_re_advance 3 rfl) rfl F_re_15 (by decide) (Nat.lt_of_lt_of_le (by decide) (hx.eq hE1).1) ((hx.eq hE1).2.1 22 (by decide)) rfl (x_topn n f1 ?_)
      refine x_icmp_ge_f 11 (ab_dd tk_re_advance 4 rfl) rfl 52 (by decide) (fun z => absurd ((nI_leI (a := n) (b := k) (by omega) (by omega)).mp z) (show ¬ (n ≤ k) by omega)) ?_
      refine x_aload_n 12 0 (ab_dd tk_re_advance 5 rfl) rfl rfl rfl ?_
      refine t_getP 15 51 (ab_dd tk_re_advance 6 rfl) rfl F_re_9 (by decide) (Nat.lt_of_lt_of_le (by decide) (hx.eq hE1).1) ((hx.eq hE1).2.1 22 (by decide)) rfl (ht1 hE1) ?_
      refine x_aload_n 16 0 (ab_dd tk_re_advance 7 rfl) rfl rfl rfl ?_
      refine t_getI 19 (ab_dd tk_re_advance 8 rfl) rfl F_re_19 (by decide) (Nat.lt_of_lt_of_le (by decide) (hx.eq hE1).1) ((hx.eq hE1).2.1 22 (by decide)) rfl (x_topn k f2 ?_)
      refine t_bald 20 k (ab_dd tk_re_advance 9 rfl) rfl (by decide) (Nat.lt_of_lt_of_le (by decide) (hx.eq hE1).1) ((hx.eq hE1).2.1 1 (by decide)) rfl (by omega) (by decide) (x_topx (sB (tp k)) hb.1 ?_)
      refine x_bipush 22 10 (ab_dd tk_re_advance 10 rfl) rfl (by decide) (x_topn 10 rfl ?_)
      refine x_icmp_eq 25 39 (ab_dd tk_re_advance 11 rfl) rfl (by decide) (fun h22 => ?_) (fun h22 => ?_)
      · refine x_aload_n 40 0 (ab_dd tk_re_advance 19 rfl) rfl rfl rfl ?_
        refine x_dup 41 (ab_dd tk_re_advance 20 rfl) rfl rfl ?_
        refine t_getI 44 (ab_dd tk_re_advance 21 rfl) rfl F_re_19 (by decide) (Nat.lt_of_lt_of_le (by decide) (hx.eq hE1).1) ((hx.eq hE1).2.1 22 (by decide)) rfl (x_topn k f2 ?_)
        refine x_iconst 45 1 (ab_dd tk_re_advance 22 rfl) rfl (by decide) (x_topn 1 rfl ?_)
        refine x_iadd 46 (ab_dd tk_re_advance 23 rfl) rfl (x_topn (k + 1) (nI_add _ _) ?_)
        refine t_putI 49 (ab_dd tk_re_advance 24 rfl) rfl F_re_19 (by decide) (Nat.lt_of_lt_of_le (by decide) (hx.eq hE1).1) ((hx.eq hE1).2.1 22 (by decide)) rfl rfl rfl ?_
        refine x_goto 0 (ab_dd tk_re_advance 25 rfl) (by decide) ?_
        exact ih (k + 1) (by omega) (by rw [← scn_y (isBl_i.mpr (Or.inl (hs10.mp h22)))]; exact hsc) _ (hE1.pI (by simp)) (fun j hj => ((gI_k (by omega)).trans (hfr j hj))) gI_s
      · refine x_aload_n 26 0 (ab_dd tk_re_advance 12 rfl) rfl rfl rfl ?_
        refine t_getP 29 51 (ab_dd tk_re_advance 13 rfl) rfl F_re_9 (by decide) (Nat.lt_of_lt_of_le (by decide) (hx.eq hE1).1) ((hx.eq hE1).2.1 22 (by decide)) rfl (ht1 hE1) ?_
        refine x_aload_n 30 0 (ab_dd tk_re_advance 14 rfl) rfl rfl rfl ?_
        refine t_getI 33 (ab_dd tk_re_advance 15 rfl) rfl F_re_19 (by decide) (Nat.lt_of_lt_of_le (by decide) (hx.eq hE1).1) ((hx.eq hE1).2.1 22 (by decide)) rfl (x_topn k f2 ?_)
        refine t_bald 34 k (ab_dd tk_re_advance 16 rfl) rfl (by decide) (Nat.lt_of_lt_of_le (by decide) (hx.eq hE1).1) ((hx.eq hE1).2.1 1 (by decide)) rfl (by omega) (by decide) (x_topx (sB (tp k)) hb.1 ?_)
        refine x_bipush 36 32 (ab_dd tk_re_advance 17 rfl) rfl (by decide) (x_topn 32 rfl ?_)
        refine x_icmp_ne 39 52 (ab_dd tk_re_advance 18 rfl) rfl (by decide) (fun h36 => ?_) (fun h36 => ?_)
        · exact atS S1 hE1 hfr (by rw [← hsc, scn_n (fun z => (isBl_i.mp z).elim (fun y => h22 (hs10.mpr y)) (fun y => h36 (hs32.mpr y)))]; exact f2)
        · refine x_aload_n 40 0 (ab_dd tk_re_advance 19 rfl) rfl rfl rfl ?_
          refine x_dup 41 (ab_dd tk_re_advance 20 rfl) rfl rfl ?_
          refine t_getI 44 (ab_dd tk_re_advance 21 rfl) rfl F_re_19 (by decide) (Nat.lt_of_lt_of_le (by decide) (hx.eq hE1).1) ((hx.eq hE1).2.1 22 (by decide)) rfl (x_topn k f2 ?_)
          refine x_iconst 45 1 (ab_dd tk_re_advance 22 rfl) rfl (by decide) (x_topn 1 rfl ?_)
          refine x_iadd 46 (ab_dd tk_re_advance 23 rfl) rfl (x_topn (k + 1) (nI_add _ _) ?_)
          refine t_putI 49 (ab_dd tk_re_advance 24 rfl) rfl F_re_19 (by decide) (Nat.lt_of_lt_of_le (by decide) (hx.eq hE1).1) ((hx.eq hE1).2.1 22 (by decide)) rfl rfl rfl ?_
          refine x_goto 0 (ab_dd tk_re_advance 25 rfl) (by decide) ?_
          exact ih (k + 1) (by omega) (by rw [← scn_y (isBl_i.mpr (Or.inr (hs32.mp h36)))]; exact hsc) _ (hE1.pI (by simp)) (fun j hj => ((gI_k (by omega)).trans (hfr j hj))) gI_s
  exact blanks (n - p) p (by omega) rfl S sEq.rf (fun _ _ => rfl) h2p
