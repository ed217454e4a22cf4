def tb_id_casesWarm : List (Nat × Instr × Nat) := [(0, .iconst 0, 1), (1, .istore_n 3, 1), (2, .iconst 0, 1), (3, .istore 4, 2), (5, .iload 4, 2), (7, .getstatic 58, 3), (10, .iload_n 2, 1), (11, .iaload, 1), (12, .if_icmp .ge 39, 3), (15, .aload_n 0, 1), (16, .getfield 25, 3), (19, .iload 4, 2), (21, .iaload, 1), (22, .ifCond .eq 23, 3), (25, .iload 4, 2), (27, .iload_n 2, 1), (28, .invokestatic 46, 3), (31, .iload_n 1, 1), (32, .if_icmp .lt 13, 3), (35, .iload_n 3, 1), (36, .aload_n 0, 1), (37, .getfield 25, 3), (40, .iload 4, 2), (42, .iaload, 1), (43, .iadd, 1), (44, .istore_n 3, 1), (45, .iinc 4 1, 3), (48, .goto (-43), 3), (51, .iload_n 3, 1), (52, .ireturn, 1)]
theorem tk_id_casesWarm : ∀ q ∈ tb_id_casesWarm, decode M_id_casesWarm.2.1 q.1 = .ok q.2 := by decide +kernel
theorem c_id_casesWarm {G : ab_G} {S : ab_S} (hx : xSh S) (kc : kSh S.1) {ca : Nat} (hca : sP S 104 4 = some ca) (hp : ca = 107 ∨ ca = 108) {D : Nat → Nat} (hD : ∀ u, u < 625 → sI S ca u = nI (D u)) {R : Nat} (hR : R ≤ 4) (hb : ∀ u, u < 5 ^ R → D u < 2 ^ 31) (k : Nat) (hk : k < 2 ^ 31) : ab_C G 2 M_id_casesWarm [.ref 104, .int (nI k), .int (nI R)] (sw S) (fun v w' => v = some (.int (nI (sumF (fun v => D v * (if k ≤ mLe v R then 1 else 0)) (5 ^ R)))) ∧ w' = sw S) := by
  refine x_enter [some (.ref 104), some (.int (nI k)), some (.int (nI R)), none, none] (by decide) (Nat.le_of_ble_eq_true rfl) rfl (fun v w' h => by obtain ⟨rfl, rfl⟩ := h; rfl) ?_
  have h6 := p5_6 hR
  have h50 : 50 ≤ sn S := Nat.le_trans (by decide) hx.1
  have hy := x_la hx hp
  have lp : ∀ (m j : Nat), j + m = 5 ^ R → ab_Ex G 2 M_id_casesWarm 5 [some (.ref 104), some (.int (nI k)), some (.int (nI R)), some (.int (nI (sumF (fun v => D v * (if k ≤ mLe v R then 1 else 0)) j))), some (.int (nI j))] [] (sw S) (fun v w' => v = some (.int (nI (sumF (fun v => D v * (if k ≤ mLe v R then 1 else 0)) (5 ^ R)))) ∧ w' = sw S) := by
    intro m
    induction m with
    | zero =>
      intro j hj
      have hjP : j = 5 ^ R := by omega
      rw [hjP]
      refine x_iload 7 4 (ab_dd tk_id_casesWarm 4 rfl) rfl rfl ?_
      refine x_getsN 10 (ab_dd tk_id_casesWarm 5 rfl) rfl (List.mem_of_getElem? (i := 0) rfl) F_id_58 ?_
      refine x_iload_n 11 2 (ab_dd tk_id_casesWarm 6 rfl) rfl rfl rfl ?_
      refine t_ialdK 12 R (ab_dd tk_id_casesWarm 7 rfl) rfl (by decide) h50 (kc.2.1) rfl (by omega) (by decide) (x_topn (5 ^ R) (kPw_N R (by omega)) ?_)
      refine x_icmp_ge_t 51 (ab_dd tk_id_casesWarm 8 rfl) (by decide) ((nI_leI (a := (5 ^ R)) (b := (5 ^ R)) (by omega) (by omega)).mpr (show (5 ^ R) ≤ (5 ^ R) by omega)) ?_
      refine x_iload_n 52 3 (ab_dd tk_id_casesWarm 28 rfl) rfl rfl rfl ?_
      exact x_iret (ab_dd tk_id_casesWarm 29 rfl) ⟨rfl, rfl⟩
    | succ m ih =>
      intro j hj
      have hbj := hb j (by omega)
      have hle := mLe_le j R
      have hsl := mSu_le j R
      have hun : sumF (fun v => D v * (if k ≤ mLe v R then 1 else 0)) (j + 1) = sumF (fun v => D v * (if k ≤ mLe v R then 1 else 0)) j + D j * (if k ≤ mLe j R then 1 else 0) := rfl
      refine x_iload 7 4 (ab_dd tk_id_casesWarm 4 rfl) rfl rfl ?_
      refine x_getsN 10 (ab_dd tk_id_casesWarm 5 rfl) rfl (List.mem_of_getElem? (i := 0) rfl) F_id_58 ?_
      refine x_iload_n 11 2 (ab_dd tk_id_casesWarm 6 rfl) rfl rfl rfl ?_
      refine t_ialdK 12 R (ab_dd tk_id_casesWarm 7 rfl) rfl (by decide) h50 (kc.2.1) rfl (by omega) (by decide) (x_topn (5 ^ R) (kPw_N R (by omega)) ?_)
      refine x_icmp_ge_f 15 (ab_dd tk_id_casesWarm 8 rfl) rfl 51 (by decide) (fun z => absurd ((nI_leI (a := (5 ^ R)) (b := j) (by omega) (by omega)).mp z) (show ¬ ((5 ^ R) ≤ j) by omega)) ?_
      refine x_aload_n 16 0 (ab_dd tk_id_casesWarm 9 rfl) rfl rfl rfl ?_
      refine t_getP 19 ca (ab_dd tk_id_casesWarm 10 rfl) rfl F_id_25 (by decide) (Nat.lt_of_lt_of_le (by decide) hx.1) (hx.2.1 54 (by decide)) rfl hca ?_
      refine x_iload 21 4 (ab_dd tk_id_casesWarm 11 rfl) rfl rfl ?_
      refine t_iald 22 j (ab_dd tk_id_casesWarm 12 rfl) rfl hy.1 hy.2.1 hy.2.2 rfl (by omega) (by decide) (x_topn (D j) (hD j (by omega)) ?_)
      refine xn_if_eq 25 45 (ab_dd tk_id_casesWarm 13 rfl) rfl (by decide) (by omega) (fun h22 => ?_) (fun h22 => ?_)
      · refine xn_iinc 48 4 (fun y => [some (.ref 104), some (.int (nI k)), some (.int (nI R)), some (.int (nI (sumF (fun v => D v * (if k ≤ mLe v R then 1 else 0)) j))), some (.int y)]) (j + 1) (ab_dd tk_id_casesWarm 26 rfl) rfl (by decide) rfl (fun _ => rfl) (iinc_p 1) ?_
        refine x_goto 5 (ab_dd tk_id_casesWarm 27 rfl) (by decide) ?_
        have h := ih (j + 1) (by omega)
        rw [hun, h22, Nat.zero_mul, Nat.add_zero] at h
        exact h
      · refine x_iload 27 4 (ab_dd tk_id_casesWarm 14 rfl) rfl rfl ?_
        refine x_iload_n 28 2 (ab_dd tk_id_casesWarm 15 rfl) rfl rfl rfl ?_
        refine x_callS 31 M_s_leastOf 1 2 [_, _] (ab_dd tk_id_casesWarm 16 rfl) rfl (by first | decide | omega) K_s_leastOf T_s_leastOf L_id_46 rfl (Nat.le_of_ble_eq_true rfl) (c_s_leastOf j R (by omega) (by omega)) (fun v1 w1 h1 => ?_)
        obtain ⟨rfl, rfl⟩ := h1
        refine x_iload_n 32 1 (ab_dd tk_id_casesWarm 17 rfl) rfl rfl rfl ?_
        refine xn_icmp_lt 35 45 (ab_dd tk_id_casesWarm 18 rfl) rfl (by decide) (by omega) (by omega) (fun h32 => ?_) (fun h32 => ?_)
        · refine xn_iinc 48 4 (fun y => [some (.ref 104), some (.int (nI k)), some (.int (nI R)), some (.int (nI (sumF (fun v => D v * (if k ≤ mLe v R then 1 else 0)) j))), some (.int y)]) (j + 1) (ab_dd tk_id_casesWarm 26 rfl) rfl (by decide) rfl (fun _ => rfl) (iinc_p 1) ?_
          refine x_goto 5 (ab_dd tk_id_casesWarm 27 rfl) (by decide) ?_
          have h := ih (j + 1) (by omega)
          rw [hun, if_neg (show ¬ k ≤ mLe j R by omega), Nat.mul_zero, Nat.add_zero] at h
          exact h
        · refine x_iload_n 36 3 (ab_dd tk_id_casesWarm 19 rfl) rfl rfl rfl ?_
          refine x_aload_n 37 0 (ab_dd tk_id_casesWarm 20 rfl) rfl rfl rfl ?_
          refine t_getP 40 ca (ab_dd tk_id_casesWarm 21 rfl) rfl F_id_25 (by decide) (Nat.lt_of_lt_of_le (by decide) hx.1) (hx.2.1 54 (by decide)) rfl hca ?_
          refine x_iload 42 4 (ab_dd tk_id_casesWarm 22 rfl) rfl rfl ?_
          refine t_iald 43 j (ab_dd tk_id_casesWarm 23 rfl) rfl hy.1 hy.2.1 hy.2.2 rfl (by omega) (by decide) (x_topn (D j) (hD j (by omega)) ?_)
          refine x_iadd 44 (ab_dd tk_id_casesWarm 24 rfl) rfl (x_topn ((sumF (fun v => D v * (if k ≤ mLe v R then 1 else 0)) j) + (D j)) (nI_add _ _) ?_)
          refine x_istore_n 45 [some (.ref 104), some (.int (nI k)), some (.int (nI R)), some (.int (nI ((sumF (fun v => D v * (if k ≤ mLe v R then 1 else 0)) j) + (D j)))), some (.int (nI j))] 3 (ab_dd tk_id_casesWarm 25 rfl) rfl rfl (by decide) rfl ?_
          refine xn_iinc 48 4 (fun y => [some (.ref 104), some (.int (nI k)), some (.int (nI R)), some (.int (nI ((sumF (fun v => D v * (if k ≤ mLe v R then 1 else 0)) j) + (D j)))), some (.int y)]) (j + 1) (ab_dd tk_id_casesWarm 26 rfl) rfl (by decide) rfl (fun _ => rfl) (iinc_p 1) ?_
          refine x_goto 5 (ab_dd tk_id_casesWarm 27 rfl) (by decide) ?_
          have h := ih (j + 1) (by omega)
          rw [hun, if_pos h32, Nat.mul_one] at h
          exact h
  refine x_iconst 1 0 (ab_dd tk_id_casesWarm 0 rfl) rfl (by decide) (x_topn 0 rfl ?_)
  refine x_istore_n 2 [some (.ref 104), some (.int (nI k)), some (.int (nI R)), some (.int (nI 0)), none] 3 (ab_dd tk_id_casesWarm 1 rfl) rfl rfl (by decide) rfl ?_
  refine x_iconst 3 0 (ab_dd tk_id_casesWarm 2 rfl) rfl (by decide) (x_topn 0 rfl ?_)
  refine x_istore 5 [some (.ref 104), some (.int (nI k)), some (.int (nI R)), some (.int (nI 0)), some (.int (nI 0))] 4 (ab_dd tk_id_casesWarm 3 rfl) rfl (by decide) rfl ?_
  exact lp (5 ^ R) 0 (by omega)
def tb_id_warmthInAllCases : List (Nat × Instr × Nat) := [(0, .iconst 0, 1), (1, .istore_n 2, 1), (2, .iconst 0, 1), (3, .istore_n 3, 1), (4, .iload_n 3, 1), (5, .getstatic 58, 3), (8, .iload_n 1, 1), (9, .iaload, 1), (10, .if_icmp .ge 33, 3), (13, .aload_n 0, 1), (14, .getfield 25, 3), (17, .iload_n 3, 1), (18, .iaload, 1), (19, .ifCond .eq 18, 3), (22, .iload_n 2, 1), (23, .aload_n 0, 1), (24, .getfield 25, 3), (27, .iload_n 3, 1), (28, .iaload, 1), (29, .iload_n 3, 1), (30, .iload_n 1, 1), (31, .invokestatic 68, 3), (34, .imul, 1), (35, .iadd, 1), (36, .istore_n 2, 1), (37, .iinc 3 1, 3), (40, .goto (-36), 3), (43, .iload_n 2, 1), (44, .ireturn, 1)]
theorem tk_id_warmthInAllCases : ∀ q ∈ tb_id_warmthInAllCases, decode M_id_warmthInAllCases.2.1 q.1 = .ok q.2 := by decide +kernel
theorem c_id_warmthInAllCases {G : ab_G} {S : ab_S} (hx : xSh S) (kc : kSh S.1) {ca : Nat} (hca : sP S 104 4 = some ca) (hp : ca = 107 ∨ ca = 108) {D : Nat → Nat} (hD : ∀ u, u < 625 → sI S ca u = nI (D u)) {R : Nat} (hR : R ≤ 4) (hb : ∀ u, u < 5 ^ R → D u < 2 ^ 31) : ab_C G 2 M_id_warmthInAllCases [.ref 104, .int (nI R)] (sw S) (fun v w' => v = some (.int (nI (sumF (fun v => D v * mSu v R) (5 ^ R)))) ∧ w' = sw S) := by
  refine x_enter [some (.ref 104), some (.int (nI R)), none, none] (by decide) (Nat.le_of_ble_eq_true rfl) rfl (fun v w' h => by obtain ⟨rfl, rfl⟩ := h; rfl) ?_
  have h6 := p5_6 hR
  have h50 : 50 ≤ sn S := Nat.le_trans (by decide) hx.1
  have hy := x_la hx hp
  have lp : ∀ (m j : Nat), j + m = 5 ^ R → ab_Ex G 2 M_id_warmthInAllCases 4 [some (.ref 104), some (.int (nI R)), some (.int (nI (sumF (fun v => D v * mSu v R) j))), some (.int (nI j))] [] (sw S) (fun v w' => v = some (.int (nI (sumF (fun v => D v * mSu v R) (5 ^ R)))) ∧ w' = sw S) := by
    intro m
    induction m with
    | zero =>
      intro j hj
      have hjP : j = 5 ^ R := by omega
      rw [hjP]
      refine x_iload_n 5 3 (ab_dd tk_id_warmthInAllCases 4 rfl) rfl rfl rfl ?_
      refine x_getsN 8 (ab_dd tk_id_warmthInAllCases 5 rfl) rfl (List.mem_of_getElem? (i := 0) rfl) F_id_58 ?_
      refine x_iload_n 9 1 (ab_dd tk_id_warmthInAllCases 6 rfl) rfl rfl rfl ?_
      refine t_ialdK 10 R (ab_dd tk_id_warmthInAllCases 7 rfl) rfl (by decide) h50 (kc.2.1) rfl (by omega) (by decide) (x_topn (5 ^ R) (kPw_N R (by omega)) ?_)
      refine x_icmp_ge_t 43 (ab_dd tk_id_warmthInAllCases 8 rfl) (by decide) ((nI_leI (a := (5 ^ R)) (b := (5 ^ R)) (by omega) (by omega)).mpr (show (5 ^ R) ≤ (5 ^ R) by omega)) ?_
      refine x_iload_n 44 2 (ab_dd tk_id_warmthInAllCases 27 rfl) rfl rfl rfl ?_
      exact x_iret (ab_dd tk_id_warmthInAllCases 28 rfl) ⟨rfl, rfl⟩
    | succ m ih =>
      intro j hj
      have hbj := hb j (by omega)
      have hle := mLe_le j R
      have hsl := mSu_le j R
      have hun : sumF (fun v => D v * mSu v R) (j + 1) = sumF (fun v => D v * mSu v R) j + D j * mSu j R := rfl
      refine x_iload_n 5 3 (ab_dd tk_id_warmthInAllCases 4 rfl) rfl rfl rfl ?_
      refine x_getsN 8 (ab_dd tk_id_warmthInAllCases 5 rfl) rfl (List.mem_of_getElem? (i := 0) rfl) F_id_58 ?_
      refine x_iload_n 9 1 (ab_dd tk_id_warmthInAllCases 6 rfl) rfl rfl rfl ?_
      refine t_ialdK 10 R (ab_dd tk_id_warmthInAllCases 7 rfl) rfl (by decide) h50 (kc.2.1) rfl (by omega) (by decide) (x_topn (5 ^ R) (kPw_N R (by omega)) ?_)
      refine x_icmp_ge_f 13 (ab_dd tk_id_warmthInAllCases 8 rfl) rfl 43 (by decide) (fun z => absurd ((nI_leI (a := (5 ^ R)) (b := j) (by omega) (by omega)).mp z) (show ¬ ((5 ^ R) ≤ j) by omega)) ?_
      refine x_aload_n 14 0 (ab_dd tk_id_warmthInAllCases 9 rfl) rfl rfl rfl ?_
      refine t_getP 17 ca (ab_dd tk_id_warmthInAllCases 10 rfl) rfl F_id_25 (by decide) (Nat.lt_of_lt_of_le (by decide) hx.1) (hx.2.1 54 (by decide)) rfl hca ?_
      refine x_iload_n 18 3 (ab_dd tk_id_warmthInAllCases 11 rfl) rfl rfl rfl ?_
      refine t_iald 19 j (ab_dd tk_id_warmthInAllCases 12 rfl) rfl hy.1 hy.2.1 hy.2.2 rfl (by omega) (by decide) (x_topn (D j) (hD j (by omega)) ?_)
      refine xn_if_eq 22 37 (ab_dd tk_id_warmthInAllCases 13 rfl) rfl (by decide) (by omega) (fun h19 => ?_) (fun h19 => ?_)
      · refine xn_iinc 40 3 (fun y => [some (.ref 104), some (.int (nI R)), some (.int (nI (sumF (fun v => D v * mSu v R) j))), some (.int y)]) (j + 1) (ab_dd tk_id_warmthInAllCases 25 rfl) rfl (by decide) rfl (fun _ => rfl) (iinc_p 1) ?_
        refine x_goto 4 (ab_dd tk_id_warmthInAllCases 26 rfl) (by decide) ?_
        have h := ih (j + 1) (by omega)
        rw [hun, h19, Nat.zero_mul, Nat.add_zero] at h
        exact h
      · refine x_iload_n 23 2 (ab_dd tk_id_warmthInAllCases 14 rfl) rfl rfl rfl ?_
        refine x_aload_n 24 0 (ab_dd tk_id_warmthInAllCases 15 rfl) rfl rfl rfl ?_
        refine t_getP 27 ca (ab_dd tk_id_warmthInAllCases 16 rfl) rfl F_id_25 (by decide) (Nat.lt_of_lt_of_le (by decide) hx.1) (hx.2.1 54 (by decide)) rfl hca ?_
        refine x_iload_n 28 3 (ab_dd tk_id_warmthInAllCases 17 rfl) rfl rfl rfl ?_
        refine t_iald 29 j (ab_dd tk_id_warmthInAllCases 18 rfl) rfl hy.1 hy.2.1 hy.2.2 rfl (by omega) (by decide) (x_topn (D j) (hD j (by omega)) ?_)
        refine x_iload_n 30 3 (ab_dd tk_id_warmthInAllCases 19 rfl) rfl rfl rfl ?_
        refine x_iload_n 31 1 (ab_dd tk_id_warmthInAllCases 20 rfl) rfl rfl rfl ?_
        refine x_callS 34 M_s_sumOf 1 2 [_, _] (ab_dd tk_id_warmthInAllCases 21 rfl) rfl (by first | decide | omega) K_s_sumOf T_s_sumOf L_id_68 rfl (Nat.le_of_ble_eq_true rfl) (c_s_sumOf j R (by omega) (by omega)) (fun v1 w1 h1 => ?_)
        obtain ⟨rfl, rfl⟩ := h1
        refine x_imul 35 (ab_dd tk_id_warmthInAllCases 22 rfl) rfl (x_topn ((D j) * (mSu j R)) (pk_mul _ _) ?_)
        refine x_iadd 36 (ab_dd tk_id_warmthInAllCases 23 rfl) rfl (x_topn ((sumF (fun v => D v * mSu v R) j) + ((D j) * (mSu j R))) (nI_add _ _) ?_)
        refine x_istore_n 37 [some (.ref 104), some (.int (nI R)), some (.int (nI ((sumF (fun v => D v * mSu v R) j) + ((D j) * (mSu j R))))), some (.int (nI j))] 2 (ab_dd tk_id_warmthInAllCases 24 rfl) rfl rfl (by decide) rfl ?_
        refine xn_iinc 40 3 (fun y => [some (.ref 104), some (.int (nI R)), some (.int (nI ((sumF (fun v => D v * mSu v R) j) + ((D j) * (mSu j R))))), some (.int y)]) (j + 1) (ab_dd tk_id_warmthInAllCases 25 rfl) rfl (by decide) rfl (fun _ => rfl) (iinc_p 1) ?_
        refine x_goto 4 (ab_dd tk_id_warmthInAllCases 26 rfl) (by decide) ?_
        have h := ih (j + 1) (by omega)
        rw [hun] at h
        exact h
  refine x_iconst 1 0 (ab_dd tk_id_warmthInAllCases 0 rfl) rfl (by decide) (x_topn 0 rfl ?_)
  refine x_istore_n 2 [some (.ref 104), some (.int (nI R)), some (.int (nI 0)), none] 2 (ab_dd tk_id_warmthInAllCases 1 rfl) rfl rfl (by decide) rfl ?_
  refine x_iconst 3 0 (ab_dd tk_id_warmthInAllCases 2 rfl) rfl (by decide) (x_topn 0 rfl ?_)
  refine x_istore_n 4 [some (.ref 104), some (.int (nI R)), some (.int (nI 0)), some (.int (nI 0))] 3 (ab_dd tk_id_warmthInAllCases 3 rfl) rfl rfl (by decide) rfl ?_
  exact lp (5 ^ R) 0 (by omega)
def tb_s_inLowestTerms : List (Nat × Instr × Nat) := [(0, .iload_n 0, 1), (1, .istore_n 3, 1), (2, .iload_n 1, 1), (3, .istore 4, 2), (5, .iconst 0, 1), (6, .istore 5, 2), (8, .iload 5, 2), (10, .bipush 100, 2), (12, .if_icmp .ge 27, 3), (15, .iload 4, 2), (17, .ifCond .eq 22, 3), (20, .iload_n 3, 1), (21, .iload 4, 2), (23, .irem, 1), (24, .istore 6, 2), (26, .iload 4, 2), (28, .istore_n 3, 1), (29, .iload 6, 2), (31, .istore 4, 2), (33, .iinc 5 1, 3), (36, .goto (-28), 3), (39, .iload_n 2, 1), (40, .ifCond .ne 7, 3), (43, .iload_n 0, 1), (44, .goto 4, 3), (47, .iload_n 1, 1), (48, .istore 5, 2), (50, .iload_n 3, 1), (51, .ifCond .ne 8, 3), (54, .iload 5, 2), (56, .goto 7, 3), (59, .iload 5, 2), (61, .iload_n 3, 1), (62, .idiv, 1), (63, .ireturn, 1)]
theorem tk_s_inLowestTerms : ∀ q ∈ tb_s_inLowestTerms, decode M_s_inLowestTerms.2.1 q.1 = .ok q.2 := by decide +kernel
theorem gcd_st (A B : Nat) : Nat.gcd B (A % B) = Nat.gcd A B := by
  rw [Nat.gcd_comm A B, Nat.gcd_rec B A, Nat.gcd_comm]
theorem half {B r : Nat} (h0 : 0 < r) (h : r < B) : 2 * (B % r) < B := by
  have h1 := Nat.mod_lt B h0
  have h2 := Nat.div_add_mod B r
  have h3 : 1 ≤ B / r := (Nat.one_le_div_iff h0).mpr (by omega)
  have h4 : r * 1 ≤ r * (B / r) := Nat.mul_le_mul_left r h3
  omega
theorem c_s_inLowestTerms {G : ab_G} {S : ab_S} (xa yb : Nat) (hx : xa < 2 ^ 31) (hy : yb < 2 ^ 20) (hy0 : 0 < yb) (what : Int32) : ab_C G 0 M_s_inLowestTerms [.int (nI xa), .int (nI yb), .int what] (sw S) (fun v w' => v = some (.int (aPa xa yb what)) ∧ w' = sw S) := by
  refine x_enter [some (.int (nI xa)), some (.int (nI yb)), some (.int what), none, none, none, none] (by decide) (Nat.le_of_ble_eq_true rfl) rfl (fun v w' h => by obtain ⟨rfl, rfl⟩ := h; rfl) ?_
  have hg0 : 0 < Nat.gcd xa yb := Nat.gcd_pos_of_pos_right xa hy0
  have hgy : Nat.gcd xa yb ≤ yb := Nat.le_of_dvd hy0 (Nat.gcd_dvd_right xa yb)
  have fin : ∀ (i B : Nat) (y6 : Option Value), ab_Ex G 0 M_s_inLowestTerms 39 [some (.int (nI xa)), some (.int (nI yb)), some (.int what), some (.int (nI (Nat.gcd xa yb))), some (.int (nI B)), some (.int (nI i)), y6] [] (sw S) (fun v w' => v = some (.int (aPa xa yb what)) ∧ w' = sw S) := by
    intro i B y6
    refine x_forget 6 ?_
    refine x_forget 5 ?_
    have hdx : xa / Nat.gcd xa yb ≤ xa := Nat.div_le_self _ _
    have hdy : yb / Nat.gcd xa yb ≤ yb := Nat.div_le_self _ _
    refine x_iload_n 40 2 (ab_dd tk_s_inLowestTerms 21 rfl) rfl rfl rfl ?_
    refine x_if_ne 43 47 (ab_dd tk_s_inLowestTerms 22 rfl) rfl (by decide) (fun h40 => ?_) (fun h40 => ?_)
    · refine x_iload_n 48 1 (ab_dd tk_s_inLowestTerms 25 rfl) rfl rfl rfl ?_
      refine x_istore 50 [some (.int (nI xa)), some (.int (nI yb)), some (.int what), some (.int (nI (Nat.gcd xa yb))), some (.int (nI B)), some (.int (nI yb)), none] 5 (ab_dd tk_s_inLowestTerms 26 rfl) rfl (by decide) rfl ?_
      refine x_iload_n 51 3 (ab_dd tk_s_inLowestTerms 27 rfl) rfl rfl rfl ?_
      refine x_if_ne_t 59 (ab_dd tk_s_inLowestTerms 28 rfl) (by decide) (by intro z; have := (nI_eq (a := Nat.gcd xa yb) (b := 0) (by omega) (by decide)).mp z; omega) ?_
      refine x_iload 61 5 (ab_dd tk_s_inLowestTerms 31 rfl) rfl rfl ?_
      refine x_iload_n 62 3 (ab_dd tk_s_inLowestTerms 32 rfl) rfl rfl rfl ?_
      refine x_idiv 63 (ab_dd tk_s_inLowestTerms 33 rfl) rfl (by intro z; have := (nI_eq (a := Nat.gcd xa yb) (b := 0) (by omega) (by decide)).mp z; omega) (x_topn (yb / (Nat.gcd xa yb)) (pk_div (by omega) (by omega) (by omega)) ?_)
      exact x_iret (ab_dd tk_s_inLowestTerms 34 rfl) ⟨rI (by unfold aPa; rw [if_neg h40, lN_32 (by omega)]), rfl⟩
    · refine x_iload_n 44 0 (ab_dd tk_s_inLowestTerms 23 rfl) rfl rfl rfl ?_
      refine x_goto 48 (ab_dd tk_s_inLowestTerms 24 rfl) (by decide) ?_
      refine x_istore 50 [some (.int (nI xa)), some (.int (nI yb)), some (.int what), some (.int (nI (Nat.gcd xa yb))), some (.int (nI B)), some (.int (nI xa)), none] 5 (ab_dd tk_s_inLowestTerms 26 rfl) rfl (by decide) rfl ?_
      refine x_iload_n 51 3 (ab_dd tk_s_inLowestTerms 27 rfl) rfl rfl rfl ?_
      refine x_if_ne_t 59 (ab_dd tk_s_inLowestTerms 28 rfl) (by decide) (by intro z; have := (nI_eq (a := Nat.gcd xa yb) (b := 0) (by omega) (by decide)).mp z; omega) ?_
      refine x_iload 61 5 (ab_dd tk_s_inLowestTerms 31 rfl) rfl rfl ?_
      refine x_iload_n 62 3 (ab_dd tk_s_inLowestTerms 32 rfl) rfl rfl rfl ?_
      refine x_idiv 63 (ab_dd tk_s_inLowestTerms 33 rfl) rfl (by intro z; have := (nI_eq (a := Nat.gcd xa yb) (b := 0) (by omega) (by decide)).mp z; omega) (x_topn (xa / (Nat.gcd xa yb)) (pk_div (by omega) (by omega) (by omega)) ?_)
      exact x_iret (ab_dd tk_s_inLowestTerms 34 rfl) ⟨rI (by unfold aPa; rw [if_pos h40, lN_32 (by omega)]), rfl⟩
  have lp : ∀ (m i A B : Nat) (y6 : Option Value), B < 2 ^ m → m ≤ 20 → i + 2 * m ≤ 98 → A < 2 ^ 31 → Nat.gcd A B = Nat.gcd xa yb → ab_Ex G 0 M_s_inLowestTerms 8 [some (.int (nI xa)), some (.int (nI yb)), some (.int what), some (.int (nI A)), some (.int (nI B)), some (.int (nI i)), y6] [] (sw S) (fun v w' => v = some (.int (aPa xa yb what)) ∧ w' = sw S) := by
    intro m
    induction m with
    | zero =>
      intro i A B y6 hB _ hi hA hg
      have hB0 : B = 0 := by omega
      rw [hB0, Nat.gcd_zero_right] at hg
      rw [hg, hB0]
      refine x_forget 6 ?_
      refine x_iload 10 5 (ab_dd tk_s_inLowestTerms 6 rfl) rfl rfl ?_
      refine x_bipush 12 100 (ab_dd tk_s_inLowestTerms 7 rfl) rfl (by decide) (x_topn 100 rfl ?_)
      refine x_icmp_ge_f 15 (ab_dd tk_s_inLowestTerms 8 rfl) rfl 39 (by decide) (fun z => absurd ((nI_leI (a := 100) (b := i) (by omega) (by omega)).mp z) (show ¬ (100 ≤ i) by omega)) ?_
      refine x_iload 17 4 (ab_dd tk_s_inLowestTerms 9 rfl) rfl rfl ?_
      refine x_if_eq_t 39 (ab_dd tk_s_inLowestTerms 10 rfl) (by decide) rfl ?_
      exact fin i 0 none
    | succ m ih =>
      intro i A B y6 hB hm hi hA hg
      refine x_forget 6 ?_
      have h2m : 2 ^ (m + 1) ≤ 2 ^ 20 := Nat.pow_le_pow_right (by decide) hm
      rw [Nat.pow_succ] at hB h2m
      by_cases hB0 : B = 0
      · rw [hB0, Nat.gcd_zero_right] at hg
        rw [hg, hB0]
        refine x_iload 10 5 (ab_dd tk_s_inLowestTerms 6 rfl) rfl rfl ?_
        refine x_bipush 12 100 (ab_dd tk_s_inLowestTerms 7 rfl) rfl (by decide) (x_topn 100 rfl ?_)
        refine x_icmp_ge_f 15 (ab_dd tk_s_inLowestTerms 8 rfl) rfl 39 (by decide) (fun z => absurd ((nI_leI (a := 100) (b := i) (by omega) (by omega)).mp z) (show ¬ (100 ≤ i) by omega)) ?_
        refine x_iload 17 4 (ab_dd tk_s_inLowestTerms 9 rfl) rfl rfl ?_
        refine x_if_eq_t 39 (ab_dd tk_s_inLowestTerms 10 rfl) (by decide) rfl ?_
        exact fin i 0 none
      · have hr := Nat.mod_lt A (show 0 < B by omega)
        have hg1 := (gcd_st A B).trans hg
        by_cases hr0 : A % B = 0
        · refine x_iload 10 5 (ab_dd tk_s_inLowestTerms 6 rfl) rfl rfl ?_
          refine x_bipush 12 100 (ab_dd tk_s_inLowestTerms 7 rfl) rfl (by decide) (x_topn 100 rfl ?_)
          refine x_icmp_ge_f 15 (ab_dd tk_s_inLowestTerms 8 rfl) rfl 39 (by decide) (fun z => absurd ((nI_leI (a := 100) (b := i) (by omega) (by omega)).mp z) (show ¬ (100 ≤ i) by omega)) ?_
          refine x_iload 17 4 (ab_dd tk_s_inLowestTerms 9 rfl) rfl rfl ?_
          refine x_if_eq_f 20 (ab_dd tk_s_inLowestTerms 10 rfl) rfl 39 (by decide) (by intro z; have := (nI_eq (a := B) (b := 0) (by omega) (by decide)).mp z; omega) ?_
          refine x_iload_n 21 3 (ab_dd tk_s_inLowestTerms 11 rfl) rfl rfl rfl ?_
          refine x_iload 23 4 (ab_dd tk_s_inLowestTerms 12 rfl) rfl rfl ?_
          refine x_irem 24 (ab_dd tk_s_inLowestTerms 13 rfl) rfl (by intro z; have := (nI_eq (a := B) (b := 0) (by omega) (by decide)).mp z; omega) (x_topn (A % B) (pk_rem (by omega) (by omega) (by omega)) ?_)
          refine x_istore 26 [some (.int (nI xa)), some (.int (nI yb)), some (.int what), some (.int (nI A)), some (.int (nI B)), some (.int (nI i)), some (.int (nI (A % B)))] 6 (ab_dd tk_s_inLowestTerms 14 rfl) rfl (by decide) rfl ?_
          refine x_iload 28 4 (ab_dd tk_s_inLowestTerms 15 rfl) rfl rfl ?_
          refine x_istore_n 29 [some (.int (nI xa)), some (.int (nI yb)), some (.int what), some (.int (nI B)), some (.int (nI B)), some (.int (nI i)), some (.int (nI (A % B)))] 3 (ab_dd tk_s_inLowestTerms 16 rfl) rfl rfl (by decide) rfl ?_
          refine x_iload 31 6 (ab_dd tk_s_inLowestTerms 17 rfl) rfl rfl ?_
          refine x_istore 33 [some (.int (nI xa)), some (.int (nI yb)), some (.int what), some (.int (nI B)), some (.int (nI (A % B))), some (.int (nI i)), some (.int (nI (A % B)))] 4 (ab_dd tk_s_inLowestTerms 18 rfl) rfl (by decide) rfl ?_
          refine xn_iinc 36 5 (fun y => [some (.int (nI xa)), some (.int (nI yb)), some (.int what), some (.int (nI B)), some (.int (nI (A % B))), some (.int y), some (.int (nI (A % B)))]) (i + 1) (ab_dd tk_s_inLowestTerms 19 rfl) rfl (by decide) rfl (fun _ => rfl) (iinc_p 1) ?_
          refine x_goto 8 (ab_dd tk_s_inLowestTerms 20 rfl) (by decide) ?_
          rw [hr0, Nat.gcd_zero_right] at hg1
          rw [hr0, hg1]
          refine x_iload 10 5 (ab_dd tk_s_inLowestTerms 6 rfl) rfl rfl ?_
          refine x_bipush 12 100 (ab_dd tk_s_inLowestTerms 7 rfl) rfl (by decide) (x_topn 100 rfl ?_)
          refine x_icmp_ge_f 15 (ab_dd tk_s_inLowestTerms 8 rfl) rfl 39 (by decide) (fun z => absurd ((nI_leI (a := 100) (b := (i + 1)) (by omega) (by omega)).mp z) (show ¬ (100 ≤ (i + 1)) by omega)) ?_
          refine x_iload 17 4 (ab_dd tk_s_inLowestTerms 9 rfl) rfl rfl ?_
          refine x_if_eq_t 39 (ab_dd tk_s_inLowestTerms 10 rfl) (by decide) rfl ?_
          exact fin (i + 1) 0 _
        · have hhf := half (show 0 < A % B by omega) hr
          refine x_iload 10 5 (ab_dd tk_s_inLowestTerms 6 rfl) rfl rfl ?_
          refine x_bipush 12 100 (ab_dd tk_s_inLowestTerms 7 rfl) rfl (by decide) (x_topn 100 rfl ?_)
          refine x_icmp_ge_f 15 (ab_dd tk_s_inLowestTerms 8 rfl) rfl 39 (by decide) (fun z => absurd ((nI_leI (a := 100) (b := i) (by omega) (by omega)).mp z) (show ¬ (100 ≤ i) by omega)) ?_
          refine x_iload 17 4 (ab_dd tk_s_inLowestTerms 9 rfl) rfl rfl ?_
          refine x_if_eq_f 20 (ab_dd tk_s_inLowestTerms 10 rfl) rfl 39 (by decide) (by intro z; have := (nI_eq (a := B) (b := 0) (by omega) (by decide)).mp z; omega) ?_
          refine x_iload_n 21 3 (ab_dd tk_s_inLowestTerms 11 rfl) rfl rfl rfl ?_
          refine x_iload 23 4 (ab_dd tk_s_inLowestTerms 12 rfl) rfl rfl ?_
          refine x_irem 24 (ab_dd tk_s_inLowestTerms 13 rfl) rfl (by intro z; have := (nI_eq (a := B) (b := 0) (by omega) (by decide)).mp z; omega) (x_topn (A % B) (pk_rem (by omega) (by omega) (by omega)) ?_)
          refine x_istore 26 [some (.int (nI xa)), some (.int (nI yb)), some (.int what), some (.int (nI A)), some (.int (nI B)), some (.int (nI i)), some (.int (nI (A % B)))] 6 (ab_dd tk_s_inLowestTerms 14 rfl) rfl (by decide) rfl ?_
          refine x_iload 28 4 (ab_dd tk_s_inLowestTerms 15 rfl) rfl rfl ?_
          refine x_istore_n 29 [some (.int (nI xa)), some (.int (nI yb)), some (.int what), some (.int (nI B)), some (.int (nI B)), some (.int (nI i)), some (.int (nI (A % B)))] 3 (ab_dd tk_s_inLowestTerms 16 rfl) rfl rfl (by decide) rfl ?_
          refine x_iload 31 6 (ab_dd tk_s_inLowestTerms 17 rfl) rfl rfl ?_
          refine x_istore 33 [some (.int (nI xa)), some (.int (nI yb)), some (.int what), some (.int (nI B)), some (.int (nI (A % B))), some (.int (nI i)), some (.int (nI (A % B)))] 4 (ab_dd tk_s_inLowestTerms 18 rfl) rfl (by decide) rfl ?_
          refine xn_iinc 36 5 (fun y => [some (.int (nI xa)), some (.int (nI yb)), some (.int what), some (.int (nI B)), some (.int (nI (A % B))), some (.int y), some (.int (nI (A % B)))]) (i + 1) (ab_dd tk_s_inLowestTerms 19 rfl) rfl (by decide) rfl (fun _ => rfl) (iinc_p 1) ?_
          refine x_goto 8 (ab_dd tk_s_inLowestTerms 20 rfl) (by decide) ?_
          refine x_iload 10 5 (ab_dd tk_s_inLowestTerms 6 rfl) rfl rfl ?_
          refine x_bipush 12 100 (ab_dd tk_s_inLowestTerms 7 rfl) rfl (by decide) (x_topn 100 rfl ?_)
          refine x_icmp_ge_f 15 (ab_dd tk_s_inLowestTerms 8 rfl) rfl 39 (by decide) (fun z => absurd ((nI_leI (a := 100) (b := (i + 1)) (by omega) (by omega)).mp z) (show ¬ (100 ≤ (i + 1)) by omega)) ?_
          refine x_iload 17 4 (ab_dd tk_s_inLowestTerms 9 rfl) rfl rfl ?_
          refine x_if_eq_f 20 (ab_dd tk_s_inLowestTerms 10 rfl) rfl 39 (by decide) (by intro z; have := (nI_eq (a := A % B) (b := 0) (by omega) (by decide)).mp z; omega) ?_
          refine x_iload_n 21 3 (ab_dd tk_s_inLowestTerms 11 rfl) rfl rfl rfl ?_
          refine x_iload 23 4 (ab_dd tk_s_inLowestTerms 12 rfl) rfl rfl ?_
          refine x_irem 24 (ab_dd tk_s_inLowestTerms 13 rfl) rfl (by intro z; have := (nI_eq (a := A % B) (b := 0) (by omega) (by decide)).mp z; omega) (x_topn (B % (A % B)) (pk_rem (by omega) (by omega) (by omega)) ?_)
          refine x_istore 26 [some (.int (nI xa)), some (.int (nI yb)), some (.int what), some (.int (nI B)), some (.int (nI (A % B))), some (.int (nI (i + 1))), some (.int (nI (B % (A % B))))] 6 (ab_dd tk_s_inLowestTerms 14 rfl) rfl (by decide) rfl ?_
          refine x_iload 28 4 (ab_dd tk_s_inLowestTerms 15 rfl) rfl rfl ?_
          refine x_istore_n 29 [some (.int (nI xa)), some (.int (nI yb)), some (.int what), some (.int (nI (A % B))), some (.int (nI (A % B))), some (.int (nI (i + 1))), some (.int (nI (B % (A % B))))] 3 (ab_dd tk_s_inLowestTerms 16 rfl) rfl rfl (by decide) rfl ?_
          refine x_iload 31 6 (ab_dd tk_s_inLowestTerms 17 rfl) rfl rfl ?_
          refine x_istore 33 [some (.int (nI xa)), some (.int (nI yb)), some (.int what), some (.int (nI (A % B))), some (.int (nI (B % (A % B)))), some (.int (nI (i + 1))), some (.int (nI (B % (A % B))))] 4 (ab_dd tk_s_inLowestTerms 18 rfl) rfl (by decide) rfl ?_
          refine xn_iinc 36 5 (fun y => [some (.int (nI xa)), some (.int (nI yb)), some (.int what), some (.int (nI (A % B))), some (.int (nI (B % (A % B)))), some (.int y), some (.int (nI (B % (A % B))))]) ((i + 1) + 1) (ab_dd tk_s_inLowestTerms 19 rfl) rfl (by decide) rfl (fun _ => rfl) (iinc_p 1) ?_
          refine x_goto 8 (ab_dd tk_s_inLowestTerms 20 rfl) (by decide) ?_
          exact ih (i + 1 + 1) (A % B) (B % (A % B)) _ (by omega) (by omega) (by omega) (by omega) ((gcd_st B (A % B)).trans hg1)
  refine x_iload_n 1 0 (ab_dd tk_s_inLowestTerms 0 rfl) rfl rfl rfl ?_
  refine x_istore_n 2 [some (.int (nI xa)), some (.int (nI yb)), some (.int what), some (.int (nI xa)), none, none, none] 3 (ab_dd tk_s_inLowestTerms 1 rfl) rfl rfl (by decide) rfl ?_
  refine x_iload_n 3 1 (ab_dd tk_s_inLowestTerms 2 rfl) rfl rfl rfl ?_
  refine x_istore 5 [some (.int (nI xa)), some (.int (nI yb)), some (.int what), some (.int (nI xa)), some (.int (nI yb)), none, none] 4 (ab_dd tk_s_inLowestTerms 3 rfl) rfl (by decide) rfl ?_
  refine x_iconst 6 0 (ab_dd tk_s_inLowestTerms 4 rfl) rfl (by decide) (x_topn 0 rfl ?_)
  refine x_istore 8 [some (.int (nI xa)), some (.int (nI yb)), some (.int what), some (.int (nI xa)), some (.int (nI yb)), some (.int (nI 0)), none] 5 (ab_dd tk_s_inLowestTerms 5 rfl) rfl (by decide) rfl ?_
  exact lp 20 0 xa yb none hy (by decide) (by decide) hx rfl
