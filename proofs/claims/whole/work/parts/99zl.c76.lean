/-! ===== the reference made ===== -/
theorem c_m_plain1 {G : ab_G} {S : ab_S} (hm : mSh S) : ab_C G 0 M_m_plain [.ref 121] (sw S) (fun v w' => v = none ∧ ∃ S', w' = sw S' ∧ sEq [121] S S' ∧ sI S' 121 = fun j => if j < 1084 then 0 else sI S 121 j) := by
  refine x_enter [some (.ref 121), none] (by decide) (Nat.le_of_ble_eq_true rfl) rfl (fun v w' h => by obtain ⟨rfl, -⟩ := h; trivial) ?_
  have lp : ∀ (m k : Nat), k + m = 1084 → ∀ S1 : ab_S, sEq [121] S S1 → (∀ j, sI S1 121 j = if j < k then 0 else sI S 121 j) → ab_Ex G 0 M_m_plain 2 [some (.ref 121), some (.int (nI k))] [] (sw S1) (fun v w' => v = none ∧ ∃ S', w' = sw S' ∧ sEq [121] S S' ∧ sI S' 121 = fun j => if j < 1084 then 0 else sI S 121 j) := by
    intro m
    induction m with
    | zero =>
      intro k hk S1 hE hV
      obtain rfl : k = 1084 := by omega
      have hm1 : mSh S1 := hm.eq hE
      refine x_iload_n 3 1 (ab_dd tk_m_plain 2 rfl) rfl rfl rfl ?_
      refine x_sipush 6 1084 (ab_dd tk_m_plain 3 rfl) rfl (by decide) (x_topn 1084 rfl ?_)
      refine x_icmp_ge_t 19 (ab_dd tk_m_plain 4 rfl) (by decide) ((nI_leI (a := 1084) (b := 1084) (by omega) (by omega)).mpr (show 1084 ≤ 1084 by omega)) ?_
      exact x_vret (ab_dd tk_m_plain 11 rfl) ⟨rfl, _, rfl, hE, funext hV⟩
    | succ m ih =>
      intro k hk S1 hE hV
      have hm1 : mSh S1 := hm.eq hE
      refine x_iload_n 3 1 (ab_dd tk_m_plain 2 rfl) rfl rfl rfl ?_
      refine x_sipush 6 1084 (ab_dd tk_m_plain 3 rfl) rfl (by decide) (x_topn 1084 rfl ?_)
      refine x_icmp_ge_f 9 (ab_dd tk_m_plain 4 rfl) rfl 19 (by decide) (fun z => absurd ((nI_leI (a := 1084) (b := k) (by omega) (by omega)).mp z) (show ¬ (1084 ≤ k) by omega)) ?_
      refine x_aload_n 10 0 (ab_dd tk_m_plain 5 rfl) rfl rfl rfl ?_
      refine x_iload_n 11 1 (ab_dd tk_m_plain 6 rfl) rfl rfl rfl ?_
      refine x_iconst 12 0 (ab_dd tk_m_plain 7 rfl) rfl (by decide) (x_topn 0 rfl ?_)
      refine t_iast 13 k (ab_dd tk_m_plain 8 rfl) rfl (by decide) (Nat.lt_of_lt_of_le (by decide) hm1.1) (hm1.2.1 1 (by decide)) rfl (by omega) (by decide) ?_
      refine xn_iinc 16 1 (fun y => [some (.ref 121), some (.int y)]) (k + 1) (ab_dd tk_m_plain 9 rfl) rfl (by decide) rfl (fun _ => rfl) (iinc_p 1) ?_
      refine x_goto 2 (ab_dd tk_m_plain 10 rfl) (by decide) ?_
      refine ih (k + 1) (by omega) _ (hE.pI (by decide)) (fun j => ?_)
      by_cases hj : j = k
      · rw [hj, if_pos (by omega)]; exact gI_s
      · rw [gI_k hj, hV j]
        by_cases h1 : j < k
        · rw [if_pos h1, if_pos (by omega)]
        · rw [if_neg h1, if_neg (by omega)]
  refine x_iconst 1 0 (ab_dd tk_m_plain 0 rfl) rfl (by decide) (x_topn 0 rfl ?_)
  refine x_istore_n 2 [some (.ref 121), some (.int (nI 0))] 1 (ab_dd tk_m_plain 1 rfl) rfl rfl (by decide) rfl ?_
  exact lp 1084 0 (by omega) S sEq.rf (fun j => by rw [if_neg (Nat.not_lt_zero j)])
def tb_m_init : List (Nat × Instr × Nat) := [(0, .aload_n 0, 1), (1, .invokespecial 7, 3), (4, .aload_n 0, 1), (5, .sipush 3252, 3), (8, .newarray .int, 2), (10, .putfield 13, 3), (13, .aload_n 0, 1), (14, .iconst 2, 1), (15, .newarray .boolean, 2), (17, .putfield 17, 3), (20, .aload_n 0, 1), (21, .sipush 900, 3), (24, .newarray .int, 2), (26, .putfield 21, 3), (29, .aload_n 0, 1), (30, .sipush 1084, 3), (33, .newarray .int, 2), (35, .putfield 24, 3), (38, .aload_n 0, 1), (39, .iconst (-1), 1), (40, .putfield 27, 3), (43, .aload_n 0, 1), (44, .sipush 900, 3), (47, .newarray .int, 2), (49, .putfield 30, 3), (52, .aload_n 0, 1), (53, .bipush 9, 2), (55, .newarray .int, 2), (57, .putfield 33, 3), (60, .aload_n 0, 1), (61, .bipush 14, 2), (63, .newarray .int, 2), (65, .putfield 36, 3), (68, .aload_n 0, 1), (69, .sipush 15001, 3), (72, .newarray .int, 2), (74, .putfield 39, 3), (77, .aload_n 0, 1), (78, .ldc 42, 2), (80, .newarray .int, 2), (82, .putfield 43, 3), (85, .aload_n 0, 1), (86, .sipush 15000, 3), (89, .newarray .int, 2), (91, .putfield 46, 3), (94, .aload_n 0, 1), (95, .ldc 49, 2), (97, .newarray .int, 2), (99, .putfield 50, 3), (102, .aload_n 0, 1), (103, .sipush 15000, 3), (106, .newarray .int, 2), (108, .putfield 53, 3), (111, .aload_n 0, 1), (112, .sipush 15000, 3), (115, .newarray .int, 2), (117, .putfield 56, 3), (120, .aload_n 0, 1), (121, .sipush 15000, 3), (124, .newarray .long, 2), (126, .putfield 59, 3), (129, .aload_n 0, 1), (130, .sipush 15000, 3), (133, .newarray .long, 2), (135, .putfield 63, 3), (138, .aload_n 0, 1), (139, .iconst 4, 1), (140, .newarray .int, 2), (142, .putfield 66, 3), (145, .aload_n 0, 1), (146, .iconst 4, 1), (147, .newarray .int, 2), (149, .putfield 69, 3), (152, .aload_n 0, 1), (153, .iconst 4, 1), (154, .newarray .int, 2), (156, .putfield 72, 3), (159, .aload_n 0, 1), (160, .iconst 4, 1), (161, .newarray .int, 2), (163, .putfield 75, 3), (166, .aload_n 0, 1), (167, .iconst 4, 1), (168, .newarray .int, 2), (170, .putfield 78, 3), (173, .aload_n 0, 1), (174, .iconst 4, 1), (175, .newarray .int, 2), (177, .putfield 81, 3), (180, .aload_n 0, 1), (181, .iconst 4, 1), (182, .newarray .int, 2), (184, .dup, 1), (185, .iconst 0, 1), (186, .iconst (-1), 1), (187, .iastore, 1), (188, .dup, 1), (189, .iconst 1, 1), (190, .iconst (-1), 1), (191, .iastore, 1), (192, .dup, 1), (193, .iconst 2, 1), (194, .iconst (-1), 1), (195, .iastore, 1), (196, .dup, 1), (197, .iconst 3, 1), (198, .iconst (-1), 1), (199, .iastore, 1), (200, .putfield 84, 3), (203, .aload_n 0, 1), (204, .iconst 4, 1), (205, .newarray .int, 2), (207, .putfield 87, 3), (210, .aload_n 0, 1), (211, .sipush 160, 3), (214, .newarray .long, 2), (216, .putfield 90, 3), (219, .aload_n 0, 1), (220, .getfield 13, 3), (223, .invokestatic 93, 3), (226, .return_, 1)]
theorem tk_m_init : ∀ q ∈ tb_m_init, decode M_m_init.2.1 q.1 = .ok q.2 := by decide +kernel
def X_mA (S : ab_S) : ab_S := (pP (pN (pP (pN (pP (pN (pP (pN (pP (pN (pP (pN (pP (pN (pP (pN (pP (pN (pI (pP (pN (pP (pN (pP (pN (pP (pN S (.inl (.int, 3252)) 3252) 120 1 (some 121)) (.inl (.boolean, 2)) 2) 120 2 (some 122)) (.inl (.int, 900)) 900) 120 3 (some 123)) (.inl (.int, 1084)) 1084) 120 4 (some 124)) 120 14 ((-1))) (.inl (.int, 900)) 900) 120 16 (some 125)) (.inl (.int, 9)) 9) 120 17 (some 126)) (.inl (.int, 14)) 14) 120 18 (some 127)) (.inl (.int, 15001)) 15001) 120 21 (some 128)) (.inl (.int, 160000)) 160000) 120 22 (some 129)) (.inl (.int, 15000)) 15000) 120 25 (some 130)) (.inl (.int, 60000)) 60000) 120 26 (some 131)) (.inl (.int, 15000)) 15000) 120 27 (some 132)) (.inl (.int, 15000)) 15000) 120 28 (some 133))
def X_mB (S : ab_S) : ab_S := (pP (pN (pP (pN (pP (pI (pI (pI (pI (pN (pP (pN (pP (pN (pP (pN (pP (pN (pP (pN (pP (pN (pP (pN (pP (pN S (.inl (.long, 15000)) 15000) 120 30 (some 134)) (.inl (.long, 15000)) 15000) 120 31 (some 135)) (.inl (.int, 4)) 4) 120 32 (some 136)) (.inl (.int, 4)) 4) 120 33 (some 137)) (.inl (.int, 4)) 4) 120 36 (some 138)) (.inl (.int, 4)) 4) 120 37 (some 139)) (.inl (.int, 4)) 4) 120 38 (some 140)) (.inl (.int, 4)) 4) 120 39 (some 141)) (.inl (.int, 4)) 4) 142 0 ((-1))) 142 1 ((-1))) 142 2 ((-1))) 142 3 ((-1))) 120 42 (some 142)) (.inl (.int, 4)) 4) 120 43 (some 143)) (.inl (.long, 160)) 160) 120 44 (some 144))
theorem c_m_init {G : ab_G} {S : ab_S} (hn : sn S = 121) (hK : sK S 120 = .inr 12) (hI : sI S 120 = fun _ => 0) (hP : sP S 120 = fun _ => none) : ab_C G 2 M_m_init [.ref 120] (sw S) (fun v w' => v = none ∧ ∃ S', w' = sw S' ∧ mSh S' ∧ S'.1 = S.1 ∧ sn S' = 145 ∧ sz S' = sz S + 316354 ∧ (∀ b, b < 120 → sK S' b = sK S b ∧ sI S' b = sI S b ∧ sJ S' b = sJ S b ∧ sP S' b = sP S b) ∧ (∀ j, mA S' j = 0) ∧ (∀ j, sI S' 122 j = 0) ∧ (∀ j, sI S' 123 j = 0) ∧ (sI S' 120 5 = 0 ∧ sI S' 120 13 = 0 ∧ sI S' 120 14 = -1) ∧ (∀ t, t < 4 → sI S' 142 t = -1 ∧ sI S' 143 t = 0)) := by
  obtain ⟨k, K, I, J, P, n, z⟩ := S
  have hn2 : n = 121 := hn
  subst hn2
  replace hK : K 120 = .inr 12 := hK
  replace hI : I 120 = fun _ => 0 := hI
  replace hP : P 120 = fun _ => none := hP
  refine x_enter [some (.ref 120)] (by decide) (Nat.le_of_ble_eq_true rfl) rfl (fun v w' h => by obtain ⟨rfl, -⟩ := h; trivial) ?_
  refine x_aload_n 1 0 (ab_dd tk_m_init 0 rfl) rfl rfl rfl ?_
  refine x_objInit 4 (ab_dd tk_m_init 1 rfl) rfl (by omega) L_m_7 O_inst O_code (Nat.le_of_ble_eq_true rfl) ?_
  refine x_aload_n 5 0 (ab_dd tk_m_init 2 rfl) rfl rfl rfl ?_
  refine x_sipush 8 3252 (ab_dd tk_m_init 3 rfl) rfl (by decide) (x_topn 3252 rfl ?_)
  refine t_newI 10 3252 (ab_dd tk_m_init 4 rfl) rfl (Nat.le_of_ble_eq_true rfl) A_int rfl (by decide) (x_topR 121 rfl ?_)
  refine t_putPF 13 (ab_dd tk_m_init 5 rfl) rfl F_m_13 rfl (no_nest (by decide +kernel)) (by decide) (Nat.le_of_ble_eq_true rfl) hK rfl ?_
  refine x_aload_n 14 0 (ab_dd tk_m_init 6 rfl) rfl rfl rfl ?_
  refine x_iconst 15 2 (ab_dd tk_m_init 7 rfl) rfl (by decide) (x_topn 2 rfl ?_)
  refine t_newZ 17 2 (ab_dd tk_m_init 8 rfl) rfl (Nat.le_of_ble_eq_true rfl) A_boolean rfl (by decide) (x_topR 122 rfl ?_)
  refine t_putPF 20 (ab_dd tk_m_init 9 rfl) rfl F_m_17 rfl (no_nest (by decide +kernel)) (by decide) (Nat.le_of_ble_eq_true rfl) hK rfl ?_
  refine x_aload_n 21 0 (ab_dd tk_m_init 10 rfl) rfl rfl rfl ?_
  refine x_sipush 24 900 (ab_dd tk_m_init 11 rfl) rfl (by decide) (x_topn 900 rfl ?_)
  refine t_newI 26 900 (ab_dd tk_m_init 12 rfl) rfl (Nat.le_of_ble_eq_true rfl) A_int rfl (by decide) (x_topR 123 rfl ?_)
  refine t_putPF 29 (ab_dd tk_m_init 13 rfl) rfl F_m_21 rfl (no_nest (by decide +kernel)) (by decide) (Nat.le_of_ble_eq_true rfl) hK rfl ?_
  refine x_aload_n 30 0 (ab_dd tk_m_init 14 rfl) rfl rfl rfl ?_
  refine x_sipush 33 1084 (ab_dd tk_m_init 15 rfl) rfl (by decide) (x_topn 1084 rfl ?_)
  refine t_newI 35 1084 (ab_dd tk_m_init 16 rfl) rfl (Nat.le_of_ble_eq_true rfl) A_int rfl (by decide) (x_topR 124 rfl ?_)
  refine t_putPF 38 (ab_dd tk_m_init 17 rfl) rfl F_m_24 rfl (no_nest (by decide +kernel)) (by decide) (Nat.le_of_ble_eq_true rfl) hK rfl ?_
  refine x_aload_n 39 0 (ab_dd tk_m_init 18 rfl) rfl rfl rfl ?_
  refine x_iconst 40 (-1) (ab_dd tk_m_init 19 rfl) rfl (by decide) ?_
  refine t_putI 43 (ab_dd tk_m_init 20 rfl) rfl F_m_27 (by decide) (Nat.le_of_ble_eq_true rfl) hK rfl rfl rfl ?_
  refine x_aload_n 44 0 (ab_dd tk_m_init 21 rfl) rfl rfl rfl ?_
  refine x_sipush 47 900 (ab_dd tk_m_init 22 rfl) rfl (by decide) (x_topn 900 rfl ?_)
  refine t_newI 49 900 (ab_dd tk_m_init 23 rfl) rfl (Nat.le_of_ble_eq_true rfl) A_int rfl (by decide) (x_topR 125 rfl ?_)
  refine t_putPF 52 (ab_dd tk_m_init 24 rfl) rfl F_m_30 rfl (no_nest (by decide +kernel)) (by decide) (Nat.le_of_ble_eq_true rfl) hK rfl ?_
  refine x_aload_n 53 0 (ab_dd tk_m_init 25 rfl) rfl rfl rfl ?_
  refine x_bipush 55 9 (ab_dd tk_m_init 26 rfl) rfl (by decide) (x_topn 9 rfl ?_)
  refine t_newI 57 9 (ab_dd tk_m_init 27 rfl) rfl (Nat.le_of_ble_eq_true rfl) A_int rfl (by decide) (x_topR 126 rfl ?_)
  refine t_putPF 60 (ab_dd tk_m_init 28 rfl) rfl F_m_33 rfl (no_nest (by decide +kernel)) (by decide) (Nat.le_of_ble_eq_true rfl) hK rfl ?_
  refine x_aload_n 61 0 (ab_dd tk_m_init 29 rfl) rfl rfl rfl ?_
  refine x_bipush 63 14 (ab_dd tk_m_init 30 rfl) rfl (by decide) (x_topn 14 rfl ?_)
  refine t_newI 65 14 (ab_dd tk_m_init 31 rfl) rfl (Nat.le_of_ble_eq_true rfl) A_int rfl (by decide) (x_topR 127 rfl ?_)
  refine t_putPF 68 (ab_dd tk_m_init 32 rfl) rfl F_m_36 rfl (no_nest (by decide +kernel)) (by decide) (Nat.le_of_ble_eq_true rfl) hK rfl ?_
  refine x_aload_n 69 0 (ab_dd tk_m_init 33 rfl) rfl rfl rfl ?_
  refine x_sipush 72 15001 (ab_dd tk_m_init 34 rfl) rfl (by decide) (x_topn 15001 rfl ?_)
  refine t_newI 74 15001 (ab_dd tk_m_init 35 rfl) rfl (Nat.le_of_ble_eq_true rfl) A_int rfl (by decide) (x_topR 128 rfl ?_)
  refine t_putPF 77 (ab_dd tk_m_init 36 rfl) rfl F_m_39 rfl (no_nest (by decide +kernel)) (by decide) (Nat.le_of_ble_eq_true rfl) hK rfl ?_
  refine x_aload_n 78 0 (ab_dd tk_m_init 37 rfl) rfl rfl rfl ?_
  refine x_ldc 80 (ab_dd tk_m_init 38 rfl) rfl C_m_42 (x_topn 160000 rfl ?_)
  refine t_newI 82 160000 (ab_dd tk_m_init 39 rfl) rfl (Nat.le_of_ble_eq_true rfl) A_int rfl (by decide) (x_topR 129 rfl ?_)
  refine t_putPF 85 (ab_dd tk_m_init 40 rfl) rfl F_m_43 rfl (no_nest (by decide +kernel)) (by decide) (Nat.le_of_ble_eq_true rfl) hK rfl ?_
  refine x_aload_n 86 0 (ab_dd tk_m_init 41 rfl) rfl rfl rfl ?_
  refine x_sipush 89 15000 (ab_dd tk_m_init 42 rfl) rfl (by decide) (x_topn 15000 rfl ?_)
  refine t_newI 91 15000 (ab_dd tk_m_init 43 rfl) rfl (Nat.le_of_ble_eq_true rfl) A_int rfl (by decide) (x_topR 130 rfl ?_)
  refine t_putPF 94 (ab_dd tk_m_init 44 rfl) rfl F_m_46 rfl (no_nest (by decide +kernel)) (by decide) (Nat.le_of_ble_eq_true rfl) hK rfl ?_
  refine x_aload_n 95 0 (ab_dd tk_m_init 45 rfl) rfl rfl rfl ?_
  refine x_ldc 97 (ab_dd tk_m_init 46 rfl) rfl C_m_49 (x_topn 60000 rfl ?_)
  refine t_newI 99 60000 (ab_dd tk_m_init 47 rfl) rfl (Nat.le_of_ble_eq_true rfl) A_int rfl (by decide) (x_topR 131 rfl ?_)
  refine t_putPF 102 (ab_dd tk_m_init 48 rfl) rfl F_m_50 rfl (no_nest (by decide +kernel)) (by decide) (Nat.le_of_ble_eq_true rfl) hK rfl ?_
  refine x_aload_n 103 0 (ab_dd tk_m_init 49 rfl) rfl rfl rfl ?_
  refine x_sipush 106 15000 (ab_dd tk_m_init 50 rfl) rfl (by decide) (x_topn 15000 rfl ?_)
  refine t_newI 108 15000 (ab_dd tk_m_init 51 rfl) rfl (Nat.le_of_ble_eq_true rfl) A_int rfl (by decide) (x_topR 132 rfl ?_)
  refine t_putPF 111 (ab_dd tk_m_init 52 rfl) rfl F_m_53 rfl (no_nest (by decide +kernel)) (by decide) (Nat.le_of_ble_eq_true rfl) hK rfl ?_
  refine x_aload_n 112 0 (ab_dd tk_m_init 53 rfl) rfl rfl rfl ?_
  refine x_sipush 115 15000 (ab_dd tk_m_init 54 rfl) rfl (by decide) (x_topn 15000 rfl ?_)
  refine t_newI 117 15000 (ab_dd tk_m_init 55 rfl) rfl (Nat.le_of_ble_eq_true rfl) A_int rfl (by decide) (x_topR 133 rfl ?_)
  refine t_putPF 120 (ab_dd tk_m_init 56 rfl) rfl F_m_56 rfl (no_nest (by decide +kernel)) (by decide) (Nat.le_of_ble_eq_true rfl) hK rfl ?_
  refine x_stt (X_mA (k, K, I, J, P, 121, z)) rfl ?_
  generalize hS1 : X_mA (k, K, I, J, P, 121, z) = S1
  obtain ⟨k1, K1, I1, J1, P1, n1, z1⟩ := S1
  have hn1 : 134 = n1 := congrArg sn hS1
  subst hn1
  have e1k : k1 = (X_mA (k, K, I, J, P, 121, z)).1 := (congrArg (fun S => S.1) hS1).symm
  have e1K : K1 = sK (X_mA (k, K, I, J, P, 121, z)) := (congrArg sK hS1).symm
  have e1I : I1 = sI (X_mA (k, K, I, J, P, 121, z)) := (congrArg sI hS1).symm
  have e1J : J1 = sJ (X_mA (k, K, I, J, P, 121, z)) := (congrArg sJ hS1).symm
  have e1P : P1 = sP (X_mA (k, K, I, J, P, 121, z)) := (congrArg sP hS1).symm
  have e1z : z1 = sz (X_mA (k, K, I, J, P, 121, z)) := (congrArg sz hS1).symm
  have hk1 : K1 120 = .inr 12 := (congrFun e1K 120).trans hK
  have p121 : P1 120 1 = some 121 := congrFun (congrFun e1P 120) 1
  refine x_aload_n 121 0 (ab_dd tk_m_init 57 rfl) rfl rfl rfl ?_
  refine x_sipush 124 15000 (ab_dd tk_m_init 58 rfl) rfl (by decide) (x_topn 15000 rfl ?_)
  refine t_newJ 126 15000 (ab_dd tk_m_init 59 rfl) rfl (Nat.le_of_ble_eq_true rfl) A_long rfl (by decide) (x_topR 134 rfl ?_)
  refine t_putPF 129 (ab_dd tk_m_init 60 rfl) rfl F_m_59 rfl (no_nest (by decide +kernel)) (by decide) (Nat.le_of_ble_eq_true rfl) hk1 rfl ?_
  refine x_aload_n 130 0 (ab_dd tk_m_init 61 rfl) rfl rfl rfl ?_
  refine x_sipush 133 15000 (ab_dd tk_m_init 62 rfl) rfl (by decide) (x_topn 15000 rfl ?_)
  refine t_newJ 135 15000 (ab_dd tk_m_init 63 rfl) rfl (Nat.le_of_ble_eq_true rfl) A_long rfl (by decide) (x_topR 135 rfl ?_)
  refine t_putPF 138 (ab_dd tk_m_init 64 rfl) rfl F_m_63 rfl (no_nest (by decide +kernel)) (by decide) (Nat.le_of_ble_eq_true rfl) hk1 rfl ?_
  refine x_aload_n 139 0 (ab_dd tk_m_init 65 rfl) rfl rfl rfl ?_
  refine x_iconst 140 4 (ab_dd tk_m_init 66 rfl) rfl (by decide) (x_topn 4 rfl ?_)
  refine t_newI 142 4 (ab_dd tk_m_init 67 rfl) rfl (Nat.le_of_ble_eq_true rfl) A_int rfl (by decide) (x_topR 136 rfl ?_)
  refine t_putPF 145 (ab_dd tk_m_init 68 rfl) rfl F_m_66 rfl (no_nest (by decide +kernel)) (by decide) (Nat.le_of_ble_eq_true rfl) hk1 rfl ?_
  refine x_aload_n 146 0 (ab_dd tk_m_init 69 rfl) rfl rfl rfl ?_
  refine x_iconst 147 4 (ab_dd tk_m_init 70 rfl) rfl (by decide) (x_topn 4 rfl ?_)
  refine t_newI 149 4 (ab_dd tk_m_init 71 rfl) rfl (Nat.le_of_ble_eq_true rfl) A_int rfl (by decide) (x_topR 137 rfl ?_)
  refine t_putPF 152 (ab_dd tk_m_init 72 rfl) rfl F_m_69 rfl (no_nest (by decide +kernel)) (by decide) (Nat.le_of_ble_eq_true rfl) hk1 rfl ?_
  refine x_aload_n 153 0 (ab_dd tk_m_init 73 rfl) rfl rfl rfl ?_
  refine x_iconst 154 4 (ab_dd tk_m_init 74 rfl) rfl (by decide) (x_topn 4 rfl ?_)
  refine t_newI 156 4 (ab_dd tk_m_init 75 rfl) rfl (Nat.le_of_ble_eq_true rfl) A_int rfl (by decide) (x_topR 138 rfl ?_)
  refine t_putPF 159 (ab_dd tk_m_init 76 rfl) rfl F_m_72 rfl (no_nest (by decide +kernel)) (by decide) (Nat.le_of_ble_eq_true rfl) hk1 rfl ?_
  refine x_aload_n 160 0 (ab_dd tk_m_init 77 rfl) rfl rfl rfl ?_
  refine x_iconst 161 4 (ab_dd tk_m_init 78 rfl) rfl (by decide) (x_topn 4 rfl ?_)
  refine t_newI 163 4 (ab_dd tk_m_init 79 rfl) rfl (Nat.le_of_ble_eq_true rfl) A_int rfl (by decide) (x_topR 139 rfl ?_)
  refine t_putPF 166 (ab_dd tk_m_init 80 rfl) rfl F_m_75 rfl (no_nest (by decide +kernel)) (by decide) (Nat.le_of_ble_eq_true rfl) hk1 rfl ?_
  refine x_aload_n 167 0 (ab_dd tk_m_init 81 rfl) rfl rfl rfl ?_
  refine x_iconst 168 4 (ab_dd tk_m_init 82 rfl) rfl (by decide) (x_topn 4 rfl ?_)
  refine t_newI 170 4 (ab_dd tk_m_init 83 rfl) rfl (Nat.le_of_ble_eq_true rfl) A_int rfl (by decide) (x_topR 140 rfl ?_)
  refine t_putPF 173 (ab_dd tk_m_init 84 rfl) rfl F_m_78 rfl (no_nest (by decide +kernel)) (by decide) (Nat.le_of_ble_eq_true rfl) hk1 rfl ?_
  refine x_aload_n 174 0 (ab_dd tk_m_init 85 rfl) rfl rfl rfl ?_
  refine x_iconst 175 4 (ab_dd tk_m_init 86 rfl) rfl (by decide) (x_topn 4 rfl ?_)
  refine t_newI 177 4 (ab_dd tk_m_init 87 rfl) rfl (Nat.le_of_ble_eq_true rfl) A_int rfl (by decide) (x_topR 141 rfl ?_)
  refine t_putPF 180 (ab_dd tk_m_init 88 rfl) rfl F_m_81 rfl (no_nest (by decide +kernel)) (by decide) (Nat.le_of_ble_eq_true rfl) hk1 rfl ?_
  refine x_aload_n 181 0 (ab_dd tk_m_init 89 rfl) rfl rfl rfl ?_
  refine x_iconst 182 4 (ab_dd tk_m_init 90 rfl) rfl (by decide) (x_topn 4 rfl ?_)
  refine t_newI 184 4 (ab_dd tk_m_init 91 rfl) rfl (Nat.le_of_ble_eq_true rfl) A_int rfl (by decide) (x_topR 142 rfl ?_)
  refine x_dup 185 (ab_dd tk_m_init 92 rfl) rfl rfl ?_
  refine x_iconst 186 0 (ab_dd tk_m_init 93 rfl) rfl (by decide) (x_topn 0 rfl ?_)
  refine x_iconst 187 (-1) (ab_dd tk_m_init 94 rfl) rfl (by decide) ?_
  refine t_iast 188 0 (ab_dd tk_m_init 95 rfl) rfl (by decide) (Nat.le_of_ble_eq_true rfl) rfl rfl (by decide) (by decide) ?_
  refine x_dup 189 (ab_dd tk_m_init 96 rfl) rfl rfl ?_
  refine x_iconst 190 1 (ab_dd tk_m_init 97 rfl) rfl (by decide) (x_topn 1 rfl ?_)
  refine x_iconst 191 (-1) (ab_dd tk_m_init 98 rfl) rfl (by decide) ?_
  refine t_iast 192 1 (ab_dd tk_m_init 99 rfl) rfl (by decide) (Nat.le_of_ble_eq_true rfl) rfl rfl (by decide) (by decide) ?_
  refine x_dup 193 (ab_dd tk_m_init 100 rfl) rfl rfl ?_
  refine x_iconst 194 2 (ab_dd tk_m_init 101 rfl) rfl (by decide) (x_topn 2 rfl ?_)
  refine x_iconst 195 (-1) (ab_dd tk_m_init 102 rfl) rfl (by decide) ?_
  refine t_iast 196 2 (ab_dd tk_m_init 103 rfl) rfl (by decide) (Nat.le_of_ble_eq_true rfl) rfl rfl (by decide) (by decide) ?_
  refine x_dup 197 (ab_dd tk_m_init 104 rfl) rfl rfl ?_
  refine x_iconst 198 3 (ab_dd tk_m_init 105 rfl) rfl (by decide) (x_topn 3 rfl ?_)
  refine x_iconst 199 (-1) (ab_dd tk_m_init 106 rfl) rfl (by decide) ?_
  refine t_iast 200 3 (ab_dd tk_m_init 107 rfl) rfl (by decide) (Nat.le_of_ble_eq_true rfl) rfl rfl (by decide) (by decide) ?_
  refine t_putPF 203 (ab_dd tk_m_init 108 rfl) rfl F_m_84 rfl (no_nest (by decide +kernel)) (by decide) (Nat.le_of_ble_eq_true rfl) hk1 rfl ?_
  refine x_aload_n 204 0 (ab_dd tk_m_init 109 rfl) rfl rfl rfl ?_
  refine x_iconst 205 4 (ab_dd tk_m_init 110 rfl) rfl (by decide) (x_topn 4 rfl ?_)
  refine t_newI 207 4 (ab_dd tk_m_init 111 rfl) rfl (Nat.le_of_ble_eq_true rfl) A_int rfl (by decide) (x_topR 143 rfl ?_)
  refine t_putPF 210 (ab_dd tk_m_init 112 rfl) rfl F_m_87 rfl (no_nest (by decide +kernel)) (by decide) (Nat.le_of_ble_eq_true rfl) hk1 rfl ?_
  refine x_aload_n 211 0 (ab_dd tk_m_init 113 rfl) rfl rfl rfl ?_
  refine x_sipush 214 160 (ab_dd tk_m_init 114 rfl) rfl (by decide) (x_topn 160 rfl ?_)
  refine t_newJ 216 160 (ab_dd tk_m_init 115 rfl) rfl (Nat.le_of_ble_eq_true rfl) A_long rfl (by decide) (x_topR 144 rfl ?_)
  refine t_putPF 219 (ab_dd tk_m_init 116 rfl) rfl F_m_90 rfl (no_nest (by decide +kernel)) (by decide) (Nat.le_of_ble_eq_true rfl) hk1 rfl ?_
  refine x_aload_n 220 0 (ab_dd tk_m_init 117 rfl) rfl rfl rfl ?_
  refine t_getP 223 121 (ab_dd tk_m_init 118 rfl) rfl F_m_13 (by decide) (Nat.le_of_ble_eq_true rfl) hk1 rfl p121 ?_
  have hKm : ∀ q, q < 25 → sK (X_mB (k1, K1, I1, J1, P1, 134, z1)) (120 + q) = mKd q := fun q hq => match q, hq with
    | 0, _ => hk1
    | 1, _ => (congrFun e1K 121)
    | 2, _ => (congrFun e1K 122)
    | 3, _ => (congrFun e1K 123)
    | 4, _ => (congrFun e1K 124)
    | 5, _ => (congrFun e1K 125)
    | 6, _ => (congrFun e1K 126)
    | 7, _ => (congrFun e1K 127)
    | 8, _ => (congrFun e1K 128)
    | 9, _ => (congrFun e1K 129)
    | 10, _ => (congrFun e1K 130)
    | 11, _ => (congrFun e1K 131)
    | 12, _ => (congrFun e1K 132)
    | 13, _ => (congrFun e1K 133)
    | 14, _ => rfl
    | 15, _ => rfl
    | 16, _ => rfl
    | 17, _ => rfl
    | 18, _ => rfl
    | 19, _ => rfl
    | 20, _ => rfl
    | 21, _ => rfl
    | 22, _ => rfl
    | 23, _ => rfl
    | 24, _ => rfl
    | q + 25, h => absurd h (by omega)
  have hPm : ∀ q, q < 45 → sP (X_mB (k1, K1, I1, J1, P1, 134, z1)) 120 q = mPf q := fun q hq => match q, hq with
    | 0, _ => (congrFun (congrFun e1P 120) 0).trans (congrFun hP 0)
    | 1, _ => (congrFun (congrFun e1P 120) 1)
    | 2, _ => (congrFun (congrFun e1P 120) 2)
    | 3, _ => (congrFun (congrFun e1P 120) 3)
    | 4, _ => (congrFun (congrFun e1P 120) 4)
    | 5, _ => (congrFun (congrFun e1P 120) 5).trans (congrFun hP 5)
    | 6, _ => (congrFun (congrFun e1P 120) 6).trans (congrFun hP 6)
    | 7, _ => (congrFun (congrFun e1P 120) 7).trans (congrFun hP 7)
    | 8, _ => (congrFun (congrFun e1P 120) 8).trans (congrFun hP 8)
    | 9, _ => (congrFun (congrFun e1P 120) 9).trans (congrFun hP 9)
    | 10, _ => (congrFun (congrFun e1P 120) 10).trans (congrFun hP 10)
    | 11, _ => (congrFun (congrFun e1P 120) 11).trans (congrFun hP 11)
    | 12, _ => (congrFun (congrFun e1P 120) 12).trans (congrFun hP 12)
    | 13, _ => (congrFun (congrFun e1P 120) 13).trans (congrFun hP 13)
    | 14, _ => (congrFun (congrFun e1P 120) 14).trans (congrFun hP 14)
    | 15, _ => (congrFun (congrFun e1P 120) 15).trans (congrFun hP 15)
    | 16, _ => (congrFun (congrFun e1P 120) 16)
    | 17, _ => (congrFun (congrFun e1P 120) 17)
    | 18, _ => (congrFun (congrFun e1P 120) 18)
    | 19, _ => (congrFun (congrFun e1P 120) 19).trans (congrFun hP 19)
    | 20, _ => (congrFun (congrFun e1P 120) 20).trans (congrFun hP 20)
    | 21, _ => (congrFun (congrFun e1P 120) 21)
    | 22, _ => (congrFun (congrFun e1P 120) 22)
    | 23, _ => (congrFun (congrFun e1P 120) 23).trans (congrFun hP 23)
    | 24, _ => (congrFun (congrFun e1P 120) 24).trans (congrFun hP 24)
    | 25, _ => (congrFun (congrFun e1P 120) 25)
    | 26, _ => (congrFun (congrFun e1P 120) 26)
    | 27, _ => (congrFun (congrFun e1P 120) 27)
    | 28, _ => (congrFun (congrFun e1P 120) 28)
    | 29, _ => (congrFun (congrFun e1P 120) 29).trans (congrFun hP 29)
    | 30, _ => rfl
    | 31, _ => rfl
    | 32, _ => rfl
    | 33, _ => rfl
    | 34, _ => (congrFun (congrFun e1P 120) 34).trans (congrFun hP 34)
    | 35, _ => (congrFun (congrFun e1P 120) 35).trans (congrFun hP 35)
    | 36, _ => rfl
    | 37, _ => rfl
    | 38, _ => rfl
    | 39, _ => rfl
    | 40, _ => (congrFun (congrFun e1P 120) 40).trans (congrFun hP 40)
    | 41, _ => (congrFun (congrFun e1P 120) 41).trans (congrFun hP 41)
    | 42, _ => rfl
    | 43, _ => rfl
    | 44, _ => rfl
    | q + 45, h => absurd h (by omega)
  have hm0 : mSh (X_mB (k1, K1, I1, J1, P1, 134, z1)) := ⟨Nat.le_of_ble_eq_true rfl, hKm, hPm⟩
  refine x_callS 226 M_m_plain 0 1 [_] (ab_dd tk_m_init 119 rfl) rfl (by first | decide | omega) K_m_plain T_m_plain L_m_93 rfl (Nat.le_of_ble_eq_true rfl) (c_m_plain1 hm0) (fun v1 w1 h1 => ?_)
  obtain ⟨rfl, S2, rfl, hE, hV⟩ := h1
  have nwE_A : nwE 120 (k, K, I, J, P, 121, z) (X_mA (k, K, I, J, P, 121, z)) 13 _ := (((((((((((((((((((((((((((nwE.rf.pN).pP (Or.inl rfl)).pN).pP (Or.inl rfl)).pN).pP (Or.inl rfl)).pN).pP (Or.inl rfl)).pI (Or.inl rfl)).pN).pP (Or.inl rfl)).pN).pP (Or.inl rfl)).pN).pP (Or.inl rfl)).pN).pP (Or.inl rfl)).pN).pP (Or.inl rfl)).pN).pP (Or.inl rfl)).pN).pP (Or.inl rfl)).pN).pP (Or.inl rfl)).pN).pP (Or.inl rfl))
  have nwE_B : nwE 120 (k1, K1, I1, J1, P1, 134, z1) (X_mB (k1, K1, I1, J1, P1, 134, z1)) 11 _ := ((((((((((((((((((((((((((nwE.rf.pN).pP (Or.inl rfl)).pN).pP (Or.inl rfl)).pN).pP (Or.inl rfl)).pN).pP (Or.inl rfl)).pN).pP (Or.inl rfl)).pN).pP (Or.inl rfl)).pN).pP (Or.inl rfl)).pN).pP (Or.inl rfl)).pN).pI (Or.inr (Nat.le_of_ble_eq_true rfl))).pI (Or.inr (Nat.le_of_ble_eq_true rfl))).pI (Or.inr (Nat.le_of_ble_eq_true rfl))).pI (Or.inr (Nat.le_of_ble_eq_true rfl))).pP (Or.inl rfl)).pN).pP (Or.inl rfl)).pN).pP (Or.inl rfl))
  have hm2 : mSh S2 := hm0.eq hE
  have n2 : sn S2 = 145 := hE.2.2.2.2.2.1
  have bs : ∀ b, b < 120 → sK S2 b = K b ∧ sI S2 b = I b ∧ sJ S2 b = J b ∧ sP S2 b = P b := fun b hb => by
    have hb1 : b ∉ [121] := fun z => by have := List.mem_singleton.mp z; omega
    have f1 := nwE_A.2.2.2
    have f2 := nwE_B.2.2.2
    obtain ⟨x1, x2, x3⟩ := f1.2 b (by show b < 121; omega) (by omega)
    obtain ⟨y1, y2, y3⟩ := f2.2 b (by show b < 134; omega) (by omega)
    have w1 := f1.1 b (by show b < 121; omega)
    have w2 := f2.1 b (by show b < 134; omega)
    exact ⟨by rw [hE.2.1]; exact w2.trans ((congrFun e1K b).trans w1), (hE.2.2.1 b hb1).trans (y1.trans ((congrFun e1I b).trans x1)), (hE.2.2.2.1 b hb1).trans (y2.trans ((congrFun e1J b).trans x2)), by rw [hE.2.2.2.2.1]; exact y3.trans ((congrFun e1P b).trans x3)⟩
  have eA : ∀ j, mA S2 j = 0 := fun j => by
    show sI S2 121 j = 0
    rw [hV]
    show (if j < 1084 then (0 : Int32) else sI (X_mB (k1, K1, I1, J1, P1, 134, z1)) 121 j) = 0
    by_cases z : j < 1084
    · rw [if_pos z]
    · rw [if_neg z]; exact congrFun (congrFun e1I 121) j
  have oth : ∀ b, b ≠ 121 → sI S2 b = sI (X_mB (k1, K1, I1, J1, P1, 134, z1)) b := fun b hb => hE.2.2.1 b (fun z => hb (List.mem_singleton.mp z))
  have e120 : ∀ q, sI S2 120 q = I1 120 q := fun q => (congrFun (oth 120 (by decide)) q)
  have hszz : sz S2 = z + 316354 := by
    have q2 := nwE_B.2.2.1
    have q1 := nwE_A.2.2.1
    have q3 : sz S2 = sz (X_mB (k1, K1, I1, J1, P1, 134, z1)) := hE.2.2.2.2.2.2
    have q4 : sz (k1, K1, I1, J1, P1, 134, z1) = z1 := rfl
    have q5 : sz (k, K, I, J, P, 121, z) = z := rfl
    omega
  exact x_vret (ab_dd tk_m_init 120 rfl) ⟨rfl, S2, rfl, hm2, hE.1.trans e1k, n2, hszz, bs, eA, fun j => (congrFun (oth 122 (by decide)) j).trans (congrFun (congrFun e1I 122) j), fun j => (congrFun (oth 123 (by decide)) j).trans (congrFun (congrFun e1I 123) j), ⟨(e120 5).trans ((congrFun (congrFun e1I 120) 5).trans (congrFun hI 5)), (e120 13).trans ((congrFun (congrFun e1I 120) 13).trans (congrFun hI 13)), (e120 14).trans (congrFun (congrFun e1I 120) 14)⟩, fun t ht => ⟨by
    rw [oth 142 (by decide)]
    rcases (by omega : t = 0 ∨ t = 1 ∨ t = 2 ∨ t = 3) with e | e | e | e <;> rw [e] <;> rfl, congrFun (oth 143 (by decide)) t⟩⟩
