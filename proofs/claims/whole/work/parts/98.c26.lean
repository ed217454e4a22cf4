/-! ===== rows: the longest warm row ===== -/
def tb_ro_longestWarm : List (Nat × Instr × Nat) := [(0, .aload_n 0, 1), (1, .getfield 51, 3), (4, .iconst (-1), 1), (5, .invokestatic 110, 3), (8, .aload_n 0, 1), (9, .getfield 54, 3), (12, .iconst 0, 1), (13, .invokestatic 110, 3), (16, .iconst 1, 1), (17, .istore_n 2, 1), (18, .aload_n 0, 1), (19, .getfield 57, 3), (22, .iconst 0, 1), (23, .iconst 0, 1), (24, .iastore, 1), (25, .aload_n 0, 1), (26, .getfield 51, 3), (29, .iconst 0, 1), (30, .iconst 0, 1), (31, .iastore, 1), (32, .iconst 0, 1), (33, .istore_n 3, 1), (34, .iload_n 3, 1), (35, .bipush 6, 2), (37, .aload_n 0, 1), (38, .getfield 38, 3), (41, .arraylength, 1), (42, .imul, 1), (43, .if_icmp .ge 180, 3), (46, .iload_n 2, 1), (47, .ifCond .le 176, 3), (50, .aload_n 0, 1), (51, .getfield 57, 3), (54, .iload_n 2, 1), (55, .iconst 1, 1), (56, .isub, 1), (57, .iaload, 1), (58, .istore 4, 2), (60, .aload_n 0, 1), (61, .getfield 51, 3), (64, .iload 4, 2), (66, .iaload, 1), (67, .iconst 4, 1), (68, .if_icmp .ne 35, 3), (71, .aload_n 0, 1), (72, .getfield 51, 3), (75, .iload 4, 2), (77, .iconst 5, 1), (78, .iastore, 1), (79, .iinc 2 (-1), 3), (82, .iload_n 2, 1), (83, .ifCond .le 134, 3), (86, .aload_n 0, 1), (87, .aload_n 0, 1), (88, .getfield 57, 3), (91, .iload_n 2, 1), (92, .iconst 1, 1), (93, .isub, 1), (94, .iaload, 1), (95, .iload 4, 2), (97, .invokevirtual 120, 3), (100, .goto 117, 3), (103, .aload_n 0, 1), (104, .iload 4, 2), (106, .invokevirtual 89, 3), (109, .aload_n 0, 1), (110, .iload 4, 2), (112, .aload_n 0, 1), (113, .getfield 51, 3), (116, .iload 4, 2), (118, .iaload, 1), (119, .invokevirtual 107, 3), (122, .istore 5, 2), (124, .aload_n 0, 1), (125, .getfield 51, 3), (128, .iload 4, 2), (130, .dup2, 1), (131, .iaload, 1), (132, .iconst 1, 1), (133, .iadd, 1), (134, .iastore, 1), (135, .iload 5, 2), (137, .iconst (-1), 1), (138, .if_icmp .eq 79, 3), (141, .aload_n 0, 1), (142, .iload 5, 2), (144, .iload_n 1, 1), (145, .invokevirtual 100, 3), (148, .ifCond .ne 6, 3), (151, .goto 66, 3), (154, .aload_n 0, 1), (155, .getfield 51, 3), (158, .iload 5, 2), (160, .iaload, 1), (161, .iconst 5, 1), (162, .if_icmp .ne 14, 3), (165, .aload_n 0, 1), (166, .iload 4, 2), (168, .iload 5, 2), (170, .invokevirtual 120, 3), (173, .goto 44, 3), (176, .aload_n 0, 1), (177, .getfield 51, 3), (180, .iload 5, 2), (182, .iaload, 1), (183, .iconst (-1), 1), (184, .if_icmp .ne 12, 3), (187, .iload_n 2, 1), (188, .aload_n 0, 1), (189, .getfield 57, 3), (192, .arraylength, 1), (193, .if_icmp .lt 5, 3), (196, .iconst (-1), 1), (197, .ireturn, 1), (198, .aload_n 0, 1), (199, .getfield 51, 3), (202, .iload 5, 2), (204, .iconst 0, 1), (205, .iastore, 1), (206, .aload_n 0, 1), (207, .getfield 57, 3), (210, .iload_n 2, 1), (211, .iload 5, 2), (213, .iastore, 1), (214, .iinc 2 1, 3), (217, .iinc 3 1, 3), (220, .goto (-186), 3), (223, .aload_n 0, 1), (224, .getfield 54, 3), (227, .iconst 0, 1), (228, .iaload, 1), (229, .ireturn, 1)]
theorem tk_ro_longestWarm : ∀ q ∈ tb_ro_longestWarm, decode M_ro_longestWarm.2.1 q.1 = .ok q.2 := by decide +kernel
theorem c_ro_longestWarm {G : ab_G} {S : ab_S} (hx : xSh S) (hse : seOk S) (kc : kSh S.1) {im : Nat → Prop} (him : imO im) {x c bh nb st : Nat} {a : Nat → Int32} (hX : x = 84 ∨ x = 94) (hcl : clI S im x c a bh nb st) (ha : aGood a) {r N : Nat} (hO : roK S r N) (hri : ∀ y, r ≤ y → y ≤ r + 7 → ¬ im y) (hrb : bh < r ∨ r + 7 < bh) {k : Nat} (hI : roI S r N x a k) {T : Nat} (hT : (cL a T).length = T) (h : Nat) (hh : h < 2 ^ 31) : ab_C G 5 M_ro_longestWarm [.ref r, .int (nI h)] (sw S) (fun v w' => ∃ S' k' v0, v = some (.int v0) ∧ w' = sw S' ∧ sEq [x + 5, x + 6, x + 7, x + 8, x + 9, bh, r, r + 1, r + 2, r + 3, r + 4, r + 5, r + 6, r + 7] S S' ∧ clI S' im x c a bh nb st ∧ roI S' r N x a k' ∧ sI S' r 9 = sI S r 9 ∧ sI S' r 14 = sI S r 14 ∧ k ≤ k' ∧ lgst (fun m => kp (gI a T) (gW a T h) m 0) v0) := by
  refine x_enter [some (.ref r), some (.int (nI h)), none, none, none, none] (by decide) (Nat.le_of_ble_eq_true rfl) rfl (fun v w' z => by obtain ⟨S', k', v0, rfl, -⟩ := z; rfl) ?_
  have hN15 : N ≤ 15000 := hO.2.2.2.2.2.2.2.2.2.2.2.2.2.2.2.2.2.2
  have hr145 := hO.1
  have hcl0 := hcl
  obtain ⟨-, -, -, -, -, -, -, -, -, -, hnb, hbh, -⟩ := hcl0
  have hI0b := hI
  obtain ⟨⟨q1, q2, q3, q4⟩, i2, i3, i4, i5, i6, i7, i8, i9⟩ := hI0b
  have hTN : T ≤ N := by
    have z := nd_len (bfB_nd T) (fun c hc => Nat.lt_of_lt_of_le (cL_all ha.1 T c hc) i9)
    rw [show (bfB (nxC a) (aQ a * 5 ^ aR a + aW a) T).length = T from hT] at z
    exact z
  have hpos : 0 < (cL a k).length := (bfB_pos k).1
  have hT0 : 0 < T := by have := (cL_pre hT i2).len; omega
  have hgT : ∀ i d j, i < T → d < 4 → gI a T i d = some j → j < T := fun i d j hi hd e => by
    have z := gI_in ha.1 hT (show T ≤ (cL a T).length by omega) hi hd e
    omega
  have loop : ∀ (q i : Nat), i + q = 6 * N + 1 → ∀ (dp : Nat) (p t f : Nat → Nat) (S1 : ab_S) (k1 : Nat) (y4 y5 : Option Value), dfI (gI a T) (gW a T h) T p dp t f i → p 0 = 0 → t 0 ≠ 0 → sEq [x + 5, x + 6, x + 7, x + 8, x + 9, bh, r, r + 1, r + 2, r + 3, r + 4, r + 5, r + 6, r + 7] S S1 → clI S1 im x c a bh nb st → roI S1 r N x a k1 → sI S1 r 9 = sI S r 9 → sI S1 r 14 = sI S r 14 → k ≤ k1 → (∀ j, j < dp → p j < (cL a k1).length) → (∀ j, j < dp → sI S1 (r + 7) j = nI (p j)) → (∀ v, v < N → sI S1 (r + 5) v = nI (t v) - nI 1) → (∀ v, v < N → sI S1 (r + 6) v = nI (f v)) → ab_Ex G 5 M_ro_longestWarm 34 [some (.ref r), some (.int (nI h)), some (.int (nI dp)), some (.int (nI i)), y4, y5] [] (sw S1) (fun v w' => ∃ S' k' v0, v = some (.int v0) ∧ w' = sw S' ∧ sEq [x + 5, x + 6, x + 7, x + 8, x + 9, bh, r, r + 1, r + 2, r + 3, r + 4, r + 5, r + 6, r + 7] S S' ∧ clI S' im x c a bh nb st ∧ roI S' r N x a k' ∧ sI S' r 9 = sI S r 9 ∧ sI S' r 14 = sI S r 14 ∧ k ≤ k' ∧ lgst (fun m => kp (gI a T) (gW a T h) m 0) v0) := by
    intro q
    induction q with
    | zero =>
      intro i hi dp p t f S1 k1 y4 y5 hD hp0 ht0 hE1 hcl1 hI1 h9 h14 hkk hpl hpm htm hfm
      have z1 := hD.2.2.2.2.2.2.2.2.2
      have z2 := sumF_6 T hD.1
      omega
    | succ q ih =>
      intro i hi dp p t f S1 k1 y4 y5 hD hp0 ht0 hE1 hcl1 hI1 h9 h14 hkk hpl hpm htm hfm
      refine x_forget 4 (x_forget 5 ?_)
      have hO1 : roK S1 r N := hO.eq hE1
      have hi1 := hI1.2.1
      have hlT := (cL_pre hT hi1).len
      have hsum : i + 1 ≤ 6 * T := Nat.le_trans hD.2.2.2.2.2.2.2.2.2 (sumF_6 T hD.1)
      rcases Nat.eq_zero_or_pos dp with hdp | hdp
      · refine x_iload_n 35 3 (ab_dd tk_ro_longestWarm 22 rfl) rfl rfl rfl ?_
        refine x_bipush 37 6 (ab_dd tk_ro_longestWarm 23 rfl) rfl (by decide) (x_topn 6 rfl ?_)
        refine x_aload_n 38 0 (ab_dd tk_ro_longestWarm 24 rfl) rfl rfl rfl ?_
        refine t_getP 41 (r + 1) (ab_dd tk_ro_longestWarm 25 rfl) rfl F_ro_38 (by have := hO1.1; omega) (Nat.lt_of_le_of_lt (Nat.le_add_right r 7) hO1.2.1) hO1.2.2.1 rfl hO1.2.2.2.2.2.2.2.2.2.2.2.1 ?_
        refine t_alen 42 0 (ab_dd tk_ro_longestWarm 26 rfl) rfl (by have := hO1.1; omega) (Nat.lt_of_le_of_lt (Nat.add_le_add_left (by decide) r) hO1.2.1) rfl hO1.2.2.2.1 ?_
        refine x_imul 43 (ab_dd tk_ro_longestWarm 27 rfl) rfl (x_topn (6 * N) (pk_mul _ _) ?_)
        refine xn_icmp_ge 46 223 (ab_dd tk_ro_longestWarm 28 rfl) rfl (by decide) (by omega) (by omega) (fun h43 => ?_) (fun h43 => ?_)
        · refine x_aload_n 224 0 (ab_dd tk_ro_longestWarm 127 rfl) rfl rfl rfl ?_
          refine t_getP 227 (r + 6) (ab_dd tk_ro_longestWarm 128 rfl) rfl F_ro_54 (by have := hO1.1; omega) (Nat.lt_of_le_of_lt (Nat.le_add_right r 7) hO1.2.1) hO1.2.2.1 rfl hO1.2.2.2.2.2.2.2.2.2.2.2.2.2.2.2.2.1 ?_
          refine x_iconst 228 0 (ab_dd tk_ro_longestWarm 129 rfl) rfl (by decide) (x_topn 0 rfl ?_)
          refine t_iald 229 0 (ab_dd tk_ro_longestWarm 130 rfl) rfl (by have := hO1.1; omega) (Nat.lt_of_le_of_lt (Nat.add_le_add_left (by decide) r) hO1.2.1) hO1.2.2.2.2.2.2.2.2.1 rfl (by omega) (by omega) (x_topn (f 0) (hfm 0 (by omega)) ?_)
          subst hdp
          exact x_iret (ab_dd tk_ro_longestWarm 131 rfl) ⟨S1, k1, _, rfl, rfl, hE1, hcl1, hI1, h9, h14, hkk, hD.done hT0 ht0⟩
        · refine x_iload_n 47 2 (ab_dd tk_ro_longestWarm 29 rfl) rfl rfl rfl ?_
          refine x_if_le_t 223 (ab_dd tk_ro_longestWarm 30 rfl) (by decide) ((nI_leI (a := dp) (b := 0) (by omega) (by omega)).mpr (show dp ≤ 0 by omega)) ?_
          refine x_aload_n 224 0 (ab_dd tk_ro_longestWarm 127 rfl) rfl rfl rfl ?_
          refine t_getP 227 (r + 6) (ab_dd tk_ro_longestWarm 128 rfl) rfl F_ro_54 (by have := hO1.1; omega) (Nat.lt_of_le_of_lt (Nat.le_add_right r 7) hO1.2.1) hO1.2.2.1 rfl hO1.2.2.2.2.2.2.2.2.2.2.2.2.2.2.2.2.1 ?_
          refine x_iconst 228 0 (ab_dd tk_ro_longestWarm 129 rfl) rfl (by decide) (x_topn 0 rfl ?_)
          refine t_iald 229 0 (ab_dd tk_ro_longestWarm 130 rfl) rfl (by have := hO1.1; omega) (Nat.lt_of_le_of_lt (Nat.add_le_add_left (by decide) r) hO1.2.1) hO1.2.2.2.2.2.2.2.2.1 rfl (by omega) (by omega) (x_topn (f 0) (hfm 0 (by omega)) ?_)
          subst hdp
          exact x_iret (ab_dd tk_ro_longestWarm 131 rfl) ⟨S1, k1, _, rfl, rfl, hE1, hcl1, hI1, h9, h14, hkk, hD.done hT0 ht0⟩
      · obtain ⟨d, rfl⟩ : ∃ d, dp = d + 1 := ⟨dp - 1, by omega⟩
        have hlt := hD.lt hdp
        obtain ⟨hpd1, hpd2, hpd3⟩ := hD.2.1 d (by omega)
        have hpdl := hpl d (by omega)
        have hdT : d + 1 ≤ T := inj_le (fun j hj => (hD.2.1 j hj).1) (fun j l h1 h2 => hD.2.2.2.1 j l h1 h2)
        have htv : sI S1 (r + 5) (p d) = nI (t (p d) - 1) := by rw [htm (p d) (by omega), pk_sub hpd2]
        have hfb : ∀ v, v < T → f v ≤ 6 * N := fun v hv => by have := hD.2.2.2.2.2.2.2.2.1 v hv; omega
        by_cases h5 : t (p d) = 5
        · refine x_iload_n 35 3 (ab_dd tk_ro_longestWarm 22 rfl) rfl rfl rfl ?_
          refine x_bipush 37 6 (ab_dd tk_ro_longestWarm 23 rfl) rfl (by decide) (x_topn 6 rfl ?_)
          refine x_aload_n 38 0 (ab_dd tk_ro_longestWarm 24 rfl) rfl rfl rfl ?_
          refine t_getP 41 (r + 1) (ab_dd tk_ro_longestWarm 25 rfl) rfl F_ro_38 (by have := hO1.1; omega) (Nat.lt_of_le_of_lt (Nat.le_add_right r 7) hO1.2.1) hO1.2.2.1 rfl hO1.2.2.2.2.2.2.2.2.2.2.2.1 ?_
          refine t_alen 42 0 (ab_dd tk_ro_longestWarm 26 rfl) rfl (by have := hO1.1; omega) (Nat.lt_of_le_of_lt (Nat.add_le_add_left (by decide) r) hO1.2.1) rfl hO1.2.2.2.1 ?_
          refine x_imul 43 (ab_dd tk_ro_longestWarm 27 rfl) rfl (x_topn (6 * N) (pk_mul _ _) ?_)
          refine x_icmp_ge_f 46 (ab_dd tk_ro_longestWarm 28 rfl) rfl 223 (by decide) (fun z => absurd ((nI_leI (a := (6 * N)) (b := i) (by omega) (by omega)).mp z) (show ¬ ((6 * N) ≤ i) by omega)) ?_
          refine x_iload_n 47 2 (ab_dd tk_ro_longestWarm 29 rfl) rfl rfl rfl ?_
          refine x_if_le_f 50 (ab_dd tk_ro_longestWarm 30 rfl) rfl 223 (by decide) (fun z => absurd ((nI_leI (a := (d + 1)) (b := 0) (by omega) (by omega)).mp z) (show ¬ ((d + 1) ≤ 0) by omega)) ?_
          refine x_aload_n 51 0 (ab_dd tk_ro_longestWarm 31 rfl) rfl rfl rfl ?_
          refine t_getP 54 (r + 7) (ab_dd tk_ro_longestWarm 32 rfl) rfl F_ro_57 (by have := hO1.1; omega) (Nat.lt_of_le_of_lt (Nat.le_add_right r 7) hO1.2.1) hO1.2.2.1 rfl hO1.2.2.2.2.2.2.2.2.2.2.2.2.2.2.2.2.2.1 ?_
          refine x_iload_n 55 2 (ab_dd tk_ro_longestWarm 33 rfl) rfl rfl rfl ?_
          refine x_iconst 56 1 (ab_dd tk_ro_longestWarm 34 rfl) rfl (by decide) (x_topn 1 rfl ?_)
          refine x_isub 57 (ab_dd tk_ro_longestWarm 35 rfl) rfl (x_topn ((d + 1) - 1) (pk_sub (by omega)) ?_)
          refine t_iald 58 d (ab_dd tk_ro_longestWarm 36 rfl) rfl (by have := hO1.1; omega) (Nat.lt_of_le_of_lt (Nat.add_le_add_left (by decide) r) hO1.2.1) hO1.2.2.2.2.2.2.2.2.2.1 rfl (by omega) (by omega) (x_topn (p d) (hpm d (by omega)) ?_)
          refine x_istore 60 [some (.ref r), some (.int (nI h)), some (.int (nI (d + 1))), some (.int (nI i)), some (.int (nI (p d))), none] 4 (ab_dd tk_ro_longestWarm 37 rfl) rfl (by decide) rfl ?_
          refine x_aload_n 61 0 (ab_dd tk_ro_longestWarm 38 rfl) rfl rfl rfl ?_
          refine t_getP 64 (r + 5) (ab_dd tk_ro_longestWarm 39 rfl) rfl F_ro_51 (by have := hO1.1; omega) (Nat.lt_of_le_of_lt (Nat.le_add_right r 7) hO1.2.1) hO1.2.2.1 rfl hO1.2.2.2.2.2.2.2.2.2.2.2.2.2.2.2.1 ?_
          refine x_iload 66 4 (ab_dd tk_ro_longestWarm 40 rfl) rfl rfl ?_
          refine t_iald 67 (p d) (ab_dd tk_ro_longestWarm 41 rfl) rfl (by have := hO1.1; omega) (Nat.lt_of_le_of_lt (Nat.add_le_add_left (by decide) r) hO1.2.1) hO1.2.2.2.2.2.2.2.1 rfl (by omega) (by omega) (x_topn (t (p d) - 1) htv ?_)
          refine x_iconst 68 4 (ab_dd tk_ro_longestWarm 42 rfl) rfl (by decide) (x_topn 4 rfl ?_)
          refine x_icmp_ne_f 71 (ab_dd tk_ro_longestWarm 43 rfl) rfl 103 (by decide) ((nI_eq (a := (t (p d) - 1)) (b := 4) (by omega) (by omega)).mpr (show (t (p d) - 1) = 4 by omega)) ?_
          refine x_aload_n 72 0 (ab_dd tk_ro_longestWarm 44 rfl) rfl rfl rfl ?_
          refine t_getP 75 (r + 5) (ab_dd tk_ro_longestWarm 45 rfl) rfl F_ro_51 (by have := hO1.1; omega) (Nat.lt_of_le_of_lt (Nat.le_add_right r 7) hO1.2.1) hO1.2.2.1 rfl hO1.2.2.2.2.2.2.2.2.2.2.2.2.2.2.2.1 ?_
          refine x_iload 77 4 (ab_dd tk_ro_longestWarm 46 rfl) rfl rfl ?_
          refine x_iconst 78 5 (ab_dd tk_ro_longestWarm 47 rfl) rfl (by decide) (x_topn 5 rfl ?_)
          refine t_iast 79 (p d) (ab_dd tk_ro_longestWarm 48 rfl) rfl (by have := hO1.1; omega) (Nat.lt_of_le_of_lt (Nat.add_le_add_left (by decide) r) hO1.2.1) hO1.2.2.2.2.2.2.2.1 rfl (by omega) (by omega) ?_
          refine xn_iinc 82 2 (fun y => [some (.ref r), some (.int (nI h)), some (.int y), some (.int (nI i)), some (.int (nI (p d))), none]) ((d + 1) - 1) (ab_dd tk_ro_longestWarm 49 rfl) rfl (by decide) rfl (fun _ => rfl) (iinc_m (by omega)) ?_
          refine x_iload_n 83 2 (ab_dd tk_ro_longestWarm 50 rfl) rfl rfl rfl ?_
          refine xn_if_le 86 217 (ab_dd tk_ro_longestWarm 51 rfl) rfl (by decide) (by omega) (fun h83 => ?_) (fun h83 => ?_)
          · refine xn_iinc 220 3 (fun y => [some (.ref r), some (.int (nI h)), some (.int (nI ((d + 1) - 1))), some (.int y), some (.int (nI (p d))), none]) (i + 1) (ab_dd tk_ro_longestWarm 125 rfl) rfl (by decide) rfl (fun _ => rfl) (iinc_p 1) ?_
            refine x_goto 34 (ab_dd tk_ro_longestWarm 126 rfl) (by decide) ?_
            have hd0 : d = 0 := by omega
            subst hd0
            have h5b : t (p 0) = 5 := h5
            have hE4 : sEq [r + 5] S1 (pI S1 (r + 5) (p 0) (nI 5)) := sEq.rf.pI (by simp)
            exact ih (i + 1) (by omega) 0 p (up1 t (p 0) 6) f _ k1 _ _ (hD.pop0 hgT rfl h5b) hp0 (by
              by_cases z : 0 = p 0
              · rw [← z, up1_s]; decide
              · rw [up1_o z]; exact ht0) (hE1.tr (hE4.mono (fun u hu => by simp only [List.mem_cons, List.not_mem_nil, or_false] at hu ⊢; omega))) ((hcl1.eq hE4 (by simp only [List.mem_cons, List.not_mem_nil, or_false, not_or]; omega) (fun u hu => hri u (by simp only [List.mem_cons, List.not_mem_nil, or_false] at hu; omega) (by simp only [List.mem_cons, List.not_mem_nil, or_false] at hu; omega)) (by simp only [List.mem_cons, List.not_mem_nil, or_false, not_or]; omega) (by simp only [List.mem_cons, List.not_mem_nil, or_false, not_or]; omega) (by simp only [List.mem_cons, List.not_mem_nil, or_false, not_or]; omega))) ((hI1.keep hE4 (by simp only [List.mem_cons, List.not_mem_nil, or_false, not_or]; omega) (by simp only [List.mem_cons, List.not_mem_nil, or_false, not_or]; omega) (by simp only [List.mem_cons, List.not_mem_nil, or_false, not_or]; omega) (by simp only [List.mem_cons, List.not_mem_nil, or_false, not_or]; omega) (by simp only [List.mem_cons, List.not_mem_nil, or_false, not_or]; omega))) ((congrFun (hE4.2.2.1 r (by simp only [List.mem_cons, List.not_mem_nil, or_false, not_or]; omega)) 9).trans h9) ((congrFun (hE4.2.2.1 r (by simp only [List.mem_cons, List.not_mem_nil, or_false, not_or]; omega)) 14).trans h14) hkk (fun j hj => absurd hj (Nat.not_lt_zero j)) (fun j hj => absurd hj (Nat.not_lt_zero j)) (fun v hv => by
                by_cases z : v = p 0
                · rw [z, gI_s, up1_s]; decide
                · rw [gI_k z, up1_o z]; exact htm v hv) (fun v hv => by rw [gI_o (by omega)]; exact hfm v hv)
          · obtain ⟨e, rfl⟩ : ∃ e, d = e + 1 := ⟨d - 1, by omega⟩
            have hpe := (hD.2.1 e (by omega)).1
            have hne : p e ≠ p (e + 1) := hD.2.2.2.1 e (e + 1) (by omega) (by omega)
            have hO5 : roK (pI S1 (r + 5) (p (e + 1)) (nI 5)) r N := hO1.eq (l := [r + 5]) (sEq.rf.pI (by simp))
            refine x_aload_n 87 0 (ab_dd tk_ro_longestWarm 52 rfl) rfl rfl rfl ?_
            refine x_aload_n 88 0 (ab_dd tk_ro_longestWarm 53 rfl) rfl rfl rfl ?_
            refine t_getP 91 (r + 7) (ab_dd tk_ro_longestWarm 54 rfl) rfl F_ro_57 (by have := hO1.1; omega) (Nat.lt_of_le_of_lt (Nat.le_add_right r 7) hO1.2.1) hO1.2.2.1 rfl hO1.2.2.2.2.2.2.2.2.2.2.2.2.2.2.2.2.2.1 ?_
            refine x_iload_n 92 2 (ab_dd tk_ro_longestWarm 55 rfl) rfl rfl rfl ?_
            refine x_iconst 93 1 (ab_dd tk_ro_longestWarm 56 rfl) rfl (by decide) (x_topn 1 rfl ?_)
            refine x_isub 94 (ab_dd tk_ro_longestWarm 57 rfl) rfl (x_topn (((e + 1 + 1) - 1) - 1) (pk_sub (by omega)) ?_)
            refine t_iald 95 e (ab_dd tk_ro_longestWarm 58 rfl) rfl (by have := hO1.1; omega) (Nat.lt_of_le_of_lt (Nat.add_le_add_left (by decide) r) hO1.2.1) hO1.2.2.2.2.2.2.2.2.2.1 rfl (by omega) (by omega) (x_topn (p e) ((congrFun (gI_o (by omega)) _).trans (hpm e (by omega))) ?_)
            refine x_iload 97 4 (ab_dd tk_ro_longestWarm 59 rfl) rfl rfl ?_
            refine t_callV 100 M_ro_lengthen 1 2 [_, _] (ab_dd tk_ro_longestWarm 60 rfl) rfl (by first | decide | omega) K_ro_lengthen V_ro_lengthen.1 V_ro_lengthen.2 L_ro_120 rfl (Nat.le_of_ble_eq_true rfl) (by have := hO1.1; omega) (Nat.lt_of_le_of_lt (Nat.le_add_right r 7) hO1.2.1) hO1.2.2.1 rfl (c_ro_lengthen hO5 (p e) (p (e + 1)) (f (p e)) (f (p (e + 1))) (by omega) (by omega) (by have := hfb _ hpe; omega) (by have := hfb _ hpd1; omega) (by rw [gI_o (by omega)]; exact hfm _ (by omega)) (by rw [gI_o (by omega)]; exact hfm _ (by omega))) (fun v1 w1 h1 => ?_)
            obtain ⟨rfl, rfl⟩ := h1
            refine x_goto 217 (ab_dd tk_ro_longestWarm 61 rfl) (by decide) ?_
            refine xn_iinc 220 3 (fun y => [some (.ref r), some (.int (nI h)), some (.int (nI ((e + 1 + 1) - 1))), some (.int y), some (.int (nI (p (e + 1)))), none]) (i + 1) (ab_dd tk_ro_longestWarm 125 rfl) rfl (by decide) rfl (fun _ => rfl) (iinc_p 1) ?_
            refine x_goto 34 (ab_dd tk_ro_longestWarm 126 rfl) (by decide) ?_
            have hE4 : sEq [r + 5, r + 6] S1 (pI (pI S1 (r + 5) (p (e + 1)) (nI 5)) (r + 6) (p e) (nI (mx1 (f (p e)) (f (p (e + 1)))))) := (sEq.rf.pI (by simp)).pI (by simp)
            exact ih (i + 1) (by omega) (e + 1) p (up1 t (p (e + 1)) 6) (up1 f (p e) (mx1 (f (p e)) (f (p (e + 1))))) (pI (pI S1 (r + 5) (p (e + 1)) (nI 5)) (r + 6) (p e) (nI (mx1 (f (p e)) (f (p (e + 1)))))) k1 _ _ (hD.pop hgT h5) hp0 (by
              by_cases z : 0 = p (e + 1)
              · rw [← z, up1_s]; decide
              · rw [up1_o z]; exact ht0) (hE1.tr (hE4.mono (fun u hu => by simp only [List.mem_cons, List.not_mem_nil, or_false] at hu ⊢; omega))) ((hcl1.eq hE4 (by simp only [List.mem_cons, List.not_mem_nil, or_false, not_or]; omega) (fun u hu => hri u (by simp only [List.mem_cons, List.not_mem_nil, or_false] at hu; omega) (by simp only [List.mem_cons, List.not_mem_nil, or_false] at hu; omega)) (by simp only [List.mem_cons, List.not_mem_nil, or_false, not_or]; omega) (by simp only [List.mem_cons, List.not_mem_nil, or_false, not_or]; omega) (by simp only [List.mem_cons, List.not_mem_nil, or_false, not_or]; omega))) ((hI1.keep hE4 (by simp only [List.mem_cons, List.not_mem_nil, or_false, not_or]; omega) (by simp only [List.mem_cons, List.not_mem_nil, or_false, not_or]; omega) (by simp only [List.mem_cons, List.not_mem_nil, or_false, not_or]; omega) (by simp only [List.mem_cons, List.not_mem_nil, or_false, not_or]; omega) (by simp only [List.mem_cons, List.not_mem_nil, or_false, not_or]; omega))) ((congrFun (hE4.2.2.1 r (by simp only [List.mem_cons, List.not_mem_nil, or_false, not_or]; omega)) 9).trans h9) ((congrFun (hE4.2.2.1 r (by simp only [List.mem_cons, List.not_mem_nil, or_false, not_or]; omega)) 14).trans h14) hkk (fun j hj => hpl j (by omega)) (fun j hj => by rw [hE4.2.2.1 (r + 7) (by simp only [List.mem_cons, List.not_mem_nil, or_false, not_or]; omega)]; exact hpm j (by omega)) (fun v hv => by
                rw [gI_o (by omega)]
                by_cases z : v = p (e + 1)
                · rw [z, gI_s, up1_s]; decide
                · rw [gI_k z, up1_o z]; exact htm v hv) (fun v hv => by
                by_cases z : v = p e
                · rw [z, gI_s, up1_s]
                · rw [gI_k z, up1_o z, gI_o (by omega)]; exact hfm v hv)
        · have h4 : t (p d) ≤ 4 := by omega
          have hx1 : xSh S1 := hx.eq hE1
          have hse1 : seOk S1 := hse.eq hE1 (by simp only [List.mem_cons, List.not_mem_nil, or_false, not_or]; omega) (by simp only [List.mem_cons, List.not_mem_nil, or_false, not_or]; omega) (by simp only [List.mem_cons, List.not_mem_nil, or_false, not_or]; omega) (by simp only [List.mem_cons, List.not_mem_nil, or_false, not_or]; omega)
          have kc1 : kSh S1.1 := by rw [hE1.1]; exact kc
          refine x_iload_n 35 3 (ab_dd tk_ro_longestWarm 22 rfl) rfl rfl rfl ?_
          refine x_bipush 37 6 (ab_dd tk_ro_longestWarm 23 rfl) rfl (by decide) (x_topn 6 rfl ?_)
          refine x_aload_n 38 0 (ab_dd tk_ro_longestWarm 24 rfl) rfl rfl rfl ?_
          refine t_getP 41 (r + 1) (ab_dd tk_ro_longestWarm 25 rfl) rfl F_ro_38 (by have := hO1.1; omega) (Nat.lt_of_le_of_lt (Nat.le_add_right r 7) hO1.2.1) hO1.2.2.1 rfl hO1.2.2.2.2.2.2.2.2.2.2.2.1 ?_
          refine t_alen 42 0 (ab_dd tk_ro_longestWarm 26 rfl) rfl (by have := hO1.1; omega) (Nat.lt_of_le_of_lt (Nat.add_le_add_left (by decide) r) hO1.2.1) rfl hO1.2.2.2.1 ?_
          refine x_imul 43 (ab_dd tk_ro_longestWarm 27 rfl) rfl (x_topn (6 * N) (pk_mul _ _) ?_)
          refine x_icmp_ge_f 46 (ab_dd tk_ro_longestWarm 28 rfl) rfl 223 (by decide) (fun z => absurd ((nI_leI (a := (6 * N)) (b := i) (by omega) (by omega)).mp z) (show ¬ ((6 * N) ≤ i) by omega)) ?_
          refine x_iload_n 47 2 (ab_dd tk_ro_longestWarm 29 rfl) rfl rfl rfl ?_
          refine x_if_le_f 50 (ab_dd tk_ro_longestWarm 30 rfl) rfl 223 (by decide) (fun z => absurd ((nI_leI (a := (d + 1)) (b := 0) (by omega) (by omega)).mp z) (show ¬ ((d + 1) ≤ 0) by omega)) ?_
          refine x_aload_n 51 0 (ab_dd tk_ro_longestWarm 31 rfl) rfl rfl rfl ?_
          refine t_getP 54 (r + 7) (ab_dd tk_ro_longestWarm 32 rfl) rfl F_ro_57 (by have := hO1.1; omega) (Nat.lt_of_le_of_lt (Nat.le_add_right r 7) hO1.2.1) hO1.2.2.1 rfl hO1.2.2.2.2.2.2.2.2.2.2.2.2.2.2.2.2.2.1 ?_
          refine x_iload_n 55 2 (ab_dd tk_ro_longestWarm 33 rfl) rfl rfl rfl ?_
          refine x_iconst 56 1 (ab_dd tk_ro_longestWarm 34 rfl) rfl (by decide) (x_topn 1 rfl ?_)
          refine x_isub 57 (ab_dd tk_ro_longestWarm 35 rfl) rfl (x_topn ((d + 1) - 1) (pk_sub (by omega)) ?_)
          refine t_iald 58 d (ab_dd tk_ro_longestWarm 36 rfl) rfl (by have := hO1.1; omega) (Nat.lt_of_le_of_lt (Nat.add_le_add_left (by decide) r) hO1.2.1) hO1.2.2.2.2.2.2.2.2.2.1 rfl (by omega) (by omega) (x_topn (p d) (hpm d (by omega)) ?_)
          refine x_istore 60 [some (.ref r), some (.int (nI h)), some (.int (nI (d + 1))), some (.int (nI i)), some (.int (nI (p d))), none] 4 (ab_dd tk_ro_longestWarm 37 rfl) rfl (by decide) rfl ?_
          refine x_aload_n 61 0 (ab_dd tk_ro_longestWarm 38 rfl) rfl rfl rfl ?_
          refine t_getP 64 (r + 5) (ab_dd tk_ro_longestWarm 39 rfl) rfl F_ro_51 (by have := hO1.1; omega) (Nat.lt_of_le_of_lt (Nat.le_add_right r 7) hO1.2.1) hO1.2.2.1 rfl hO1.2.2.2.2.2.2.2.2.2.2.2.2.2.2.2.1 ?_
          refine x_iload 66 4 (ab_dd tk_ro_longestWarm 40 rfl) rfl rfl ?_
          refine t_iald 67 (p d) (ab_dd tk_ro_longestWarm 41 rfl) rfl (by have := hO1.1; omega) (Nat.lt_of_le_of_lt (Nat.add_le_add_left (by decide) r) hO1.2.1) hO1.2.2.2.2.2.2.2.1 rfl (by omega) (by omega) (x_topn (t (p d) - 1) htv ?_)
          refine x_iconst 68 4 (ab_dd tk_ro_longestWarm 42 rfl) rfl (by decide) (x_topn 4 rfl ?_)
          refine x_icmp_ne_t 103 (ab_dd tk_ro_longestWarm 43 rfl) (by decide) (fun z => absurd ((nI_eq (a := (t (p d) - 1)) (b := 4) (by omega) (by omega)).mp z) (show ¬ ((t (p d) - 1) = 4) by omega)) ?_
          refine x_aload_n 104 0 (ab_dd tk_ro_longestWarm 62 rfl) rfl rfl rfl ?_
          refine x_iload 106 4 (ab_dd tk_ro_longestWarm 63 rfl) rfl rfl ?_
          refine t_callV 109 M_ro_openTo 4 1 [_] (ab_dd tk_ro_longestWarm 64 rfl) rfl (by first | decide | omega) K_ro_openTo V_ro_openTo.1 V_ro_openTo.2 L_ro_89 rfl (Nat.le_of_ble_eq_true rfl) (by have := hO1.1; omega) (Nat.lt_of_le_of_lt (Nat.le_add_right r 7) hO1.2.1) hO1.2.2.1 rfl (c_ro_openTo hx1 hse1 kc1 him hX hcl1 ha hO1 hri hrb hI1 (p d) (by omega)) (fun v1 w1 h1 => ?_)
          obtain ⟨rfl, S2, k2, rfl, hE2, hcl2, hI2, hn9, hn14, hk12, hT2⟩ := h1
          have hO2 : roK S2 r N := hO1.eq hE2
          have hcl12 := cL_len (a := a) hk12
          have hs2 : p d < k2 := by omega
          have hi2 := hI2.2.1
          have hl2 : (cL a k2).length ≤ T := Nat.le_trans (cL_pre hT hi2).len (by omega)
          have hpm2 : ∀ j, j < d + 1 → sI S2 (r + 7) j = nI (p j) := fun j hj => by rw [hE2.2.2.1 (r + 7) (by simp only [List.mem_cons, List.not_mem_nil, or_false, not_or]; omega)]; exact hpm j hj
          have htm2 : ∀ v, v < N → sI S2 (r + 5) v = nI (t v) - nI 1 := fun j hj => by rw [hE2.2.2.1 (r + 5) (by simp only [List.mem_cons, List.not_mem_nil, or_false, not_or]; omega)]; exact htm j hj
          have hfm2 : ∀ v, v < N → sI S2 (r + 6) v = nI (f v) := fun j hj => by rw [hE2.2.2.1 (r + 6) (by simp only [List.mem_cons, List.not_mem_nil, or_false, not_or]; omega)]; exact hfm j hj
          have htv2 : sI S2 (r + 5) (p d) = nI (t (p d) - 1) := by rw [htm2 (p d) (by omega), pk_sub hpd2]
          have hpl2 : ∀ j, j < d + 1 → p j < (cL a k2).length := fun j hj => Nat.lt_of_lt_of_le (hpl j hj) hcl12
          have hgv : sI S2 (r + 4) (p d * 4 + (t (p d) - 1)) = encN (gI a T (p d) (t (p d) - 1)) := roN_o ha.1 hT hI2 hs2 (by omega)
          have hx2 : sEq [x + 5, x + 6, x + 7, x + 8, x + 9, bh, r, r + 1, r + 2, r + 3, r + 4, r + 5, r + 6, r + 7] S S2 := hE1.tr (hE2.mono (fun u hu => by simp only [List.mem_cons, List.not_mem_nil, or_false] at hu ⊢; omega))
          refine x_aload_n 110 0 (ab_dd tk_ro_longestWarm 65 rfl) rfl rfl rfl ?_
          refine x_iload 112 4 (ab_dd tk_ro_longestWarm 66 rfl) rfl rfl ?_
          refine x_aload_n 113 0 (ab_dd tk_ro_longestWarm 67 rfl) rfl rfl rfl ?_
          refine t_getP 116 (r + 5) (ab_dd tk_ro_longestWarm 68 rfl) rfl F_ro_51 (by have := hO2.1; omega) (Nat.lt_of_le_of_lt (Nat.le_add_right r 7) hO2.2.1) hO2.2.2.1 rfl hO2.2.2.2.2.2.2.2.2.2.2.2.2.2.2.2.1 ?_
          refine x_iload 118 4 (ab_dd tk_ro_longestWarm 69 rfl) rfl rfl ?_
          refine t_iald 119 (p d) (ab_dd tk_ro_longestWarm 70 rfl) rfl (by have := hO2.1; omega) (Nat.lt_of_le_of_lt (Nat.add_le_add_left (by decide) r) hO2.2.1) hO2.2.2.2.2.2.2.2.1 rfl (by omega) (by omega) (x_topn (t (p d) - 1) htv2 ?_)
          refine t_callV 122 M_ro_nextOf 0 2 [_, _] (ab_dd tk_ro_longestWarm 71 rfl) rfl (by first | decide | omega) K_ro_nextOf V_ro_nextOf.1 V_ro_nextOf.2 L_ro_107 rfl (Nat.le_of_ble_eq_true rfl) (by have := hO2.1; omega) (Nat.lt_of_le_of_lt (Nat.le_add_right r 7) hO2.2.1) hO2.2.2.1 rfl (c_ro_nextOf hO2 (p d) (t (p d) - 1) (by omega) (by omega)) (fun v1 w1 h1 => ?_)
          obtain ⟨rfl, rfl⟩ := h1
          rw [hgv]
          rcases hgo : gI a T (p d) (t (p d) - 1) with _ | u
          · show ab_Ex _ _ _ _ _ (.int (-1) :: _) _ _
            refine x_istore 124 [some (.ref r), some (.int (nI h)), some (.int (nI (d + 1))), some (.int (nI i)), some (.int (nI (p d))), some (.int ((-1)))] 5 (ab_dd tk_ro_longestWarm 72 rfl) rfl (by decide) rfl ?_
            refine x_aload_n 125 0 (ab_dd tk_ro_longestWarm 73 rfl) rfl rfl rfl ?_
            refine t_getP 128 (r + 5) (ab_dd tk_ro_longestWarm 74 rfl) rfl F_ro_51 (by have := hO2.1; omega) (Nat.lt_of_le_of_lt (Nat.le_add_right r 7) hO2.2.1) hO2.2.2.1 rfl hO2.2.2.2.2.2.2.2.2.2.2.2.2.2.2.2.1 ?_
            refine x_iload 130 4 (ab_dd tk_ro_longestWarm 75 rfl) rfl rfl ?_
            refine x_dup2 131 (ab_dd tk_ro_longestWarm 76 rfl) rfl rfl rfl ?_
            refine t_iald 132 (p d) (ab_dd tk_ro_longestWarm 77 rfl) rfl (by have := hO2.1; omega) (Nat.lt_of_le_of_lt (Nat.add_le_add_left (by decide) r) hO2.2.1) hO2.2.2.2.2.2.2.2.1 rfl (by omega) (by omega) (x_topn (t (p d) - 1) htv2 ?_)
            refine x_iconst 133 1 (ab_dd tk_ro_longestWarm 78 rfl) rfl (by decide) (x_topn 1 rfl ?_)
            refine x_iadd 134 (ab_dd tk_ro_longestWarm 79 rfl) rfl (x_topn ((t (p d) - 1) + 1) (nI_add _ _) ?_)
            refine t_iast 135 (p d) (ab_dd tk_ro_longestWarm 80 rfl) rfl (by have := hO2.1; omega) (Nat.lt_of_le_of_lt (Nat.add_le_add_left (by decide) r) hO2.2.1) hO2.2.2.2.2.2.2.2.1 rfl (by omega) (by omega) ?_
            refine x_iload 137 5 (ab_dd tk_ro_longestWarm 81 rfl) rfl rfl ?_
            refine x_iconst 138 (-1) (ab_dd tk_ro_longestWarm 82 rfl) rfl (by decide) ?_
            refine x_icmp_eq_t 217 (ab_dd tk_ro_longestWarm 83 rfl) (by decide) rfl ?_
            refine xn_iinc 220 3 (fun y => [some (.ref r), some (.int (nI h)), some (.int (nI (d + 1))), some (.int y), some (.int (nI (p d))), some (.int ((-1)))]) (i + 1) (ab_dd tk_ro_longestWarm 125 rfl) rfl (by decide) rfl (fun _ => rfl) (iinc_p 1) ?_
            refine x_goto 34 (ab_dd tk_ro_longestWarm 126 rfl) (by decide) ?_
            have hE4 : sEq [r + 5] S2 (pI S2 (r + 5) (p d) (nI (t (p d) - 1 + 1))) := sEq.rf.pI (by simp)
            exact ih (i + 1) (by omega) (d + 1) p (up1 t (p d) (t (p d) + 1)) f _ k2 _ _ (hD.skip h4 (fun u hu => by rw [hgo] at hu; cases hu)) hp0 (by
              by_cases z : 0 = p d
              · rw [← z, up1_s]; omega
              · rw [up1_o z]; exact ht0) (hx2.tr (hE4.mono (fun u hu => by simp only [List.mem_cons, List.not_mem_nil, or_false] at hu ⊢; omega))) ((hcl2.eq hE4 (by simp only [List.mem_cons, List.not_mem_nil, or_false, not_or]; omega) (fun u hu => hri u (by simp only [List.mem_cons, List.not_mem_nil, or_false] at hu; omega) (by simp only [List.mem_cons, List.not_mem_nil, or_false] at hu; omega)) (by simp only [List.mem_cons, List.not_mem_nil, or_false, not_or]; omega) (by simp only [List.mem_cons, List.not_mem_nil, or_false, not_or]; omega) (by simp only [List.mem_cons, List.not_mem_nil, or_false, not_or]; omega))) ((hI2.keep hE4 (by simp only [List.mem_cons, List.not_mem_nil, or_false, not_or]; omega) (by simp only [List.mem_cons, List.not_mem_nil, or_false, not_or]; omega) (by simp only [List.mem_cons, List.not_mem_nil, or_false, not_or]; omega) (by simp only [List.mem_cons, List.not_mem_nil, or_false, not_or]; omega) (by simp only [List.mem_cons, List.not_mem_nil, or_false, not_or]; omega))) ((congrFun (hE4.2.2.1 r (by simp only [List.mem_cons, List.not_mem_nil, or_false, not_or]; omega)) 9).trans (hn9.trans h9)) ((congrFun (hE4.2.2.1 r (by simp only [List.mem_cons, List.not_mem_nil, or_false, not_or]; omega)) 14).trans (hn14.trans h14)) (by omega) hpl2 (fun j hj => by rw [hE4.2.2.1 (r + 7) (by simp only [List.mem_cons, List.not_mem_nil, or_false, not_or]; omega)]; exact hpm2 j hj) (fun v hv => by
                by_cases z : v = p d
                · rw [z, gI_s, up1_s, show t (p d) - 1 + 1 = t (p d) by omega, pk_sub (by omega)]; rfl
                · rw [gI_k z, up1_o z]; exact htm2 v hv) (fun v hv => by rw [gI_o (by omega)]; exact hfm2 v hv)
          · show ab_Ex _ _ _ _ _ (.int (nI u) :: _) _ _
            have hu := gI_in ha.1 hT hi2 hs2 (by omega) hgo
            have hO3 : roK (pI S2 (r + 5) (p d) (nI (t (p d) - 1 + 1))) r N := hO2.eq (l := [r + 5]) (sEq.rf.pI (by simp))
            refine x_istore 124 [some (.ref r), some (.int (nI h)), some (.int (nI (d + 1))), some (.int (nI i)), some (.int (nI (p d))), some (.int (nI u))] 5 (ab_dd tk_ro_longestWarm 72 rfl) rfl (by decide) rfl ?_
            refine x_aload_n 125 0 (ab_dd tk_ro_longestWarm 73 rfl) rfl rfl rfl ?_
            refine t_getP 128 (r + 5) (ab_dd tk_ro_longestWarm 74 rfl) rfl F_ro_51 (by have := hO3.1; omega) (Nat.lt_of_le_of_lt (Nat.le_add_right r 7) hO3.2.1) hO3.2.2.1 rfl hO3.2.2.2.2.2.2.2.2.2.2.2.2.2.2.2.1 ?_
            refine x_iload 130 4 (ab_dd tk_ro_longestWarm 75 rfl) rfl rfl ?_
            refine x_dup2 131 (ab_dd tk_ro_longestWarm 76 rfl) rfl rfl rfl ?_
            refine t_iald 132 (p d) (ab_dd tk_ro_longestWarm 77 rfl) rfl (by have := hO3.1; omega) (Nat.lt_of_le_of_lt (Nat.add_le_add_left (by decide) r) hO3.2.1) hO3.2.2.2.2.2.2.2.1 rfl (by omega) (by omega) (x_topn (t (p d) - 1) htv2 ?_)
            refine x_iconst 133 1 (ab_dd tk_ro_longestWarm 78 rfl) rfl (by decide) (x_topn 1 rfl ?_)
            refine x_iadd 134 (ab_dd tk_ro_longestWarm 79 rfl) rfl (x_topn ((t (p d) - 1) + 1) (nI_add _ _) ?_)
            refine t_iast 135 (p d) (ab_dd tk_ro_longestWarm 80 rfl) rfl (by have := hO3.1; omega) (Nat.lt_of_le_of_lt (Nat.add_le_add_left (by decide) r) hO3.2.1) hO3.2.2.2.2.2.2.2.1 rfl (by omega) (by omega) ?_
            refine x_iload 137 5 (ab_dd tk_ro_longestWarm 81 rfl) rfl rfl ?_
            refine x_iconst 138 (-1) (ab_dd tk_ro_longestWarm 82 rfl) rfl (by decide) ?_
            refine x_icmp_eq_f 141 (ab_dd tk_ro_longestWarm 83 rfl) rfl 217 (by decide) (nI_nm1 (by omega)) ?_
            refine x_aload_n 142 0 (ab_dd tk_ro_longestWarm 84 rfl) rfl rfl rfl ?_
            refine x_iload 144 5 (ab_dd tk_ro_longestWarm 85 rfl) rfl rfl ?_
            refine x_iload_n 145 1 (ab_dd tk_ro_longestWarm 86 rfl) rfl rfl rfl ?_
            have hE4 : sEq [r + 5] S2 (pI S2 (r + 5) (p d) (nI (t (p d) - 1 + 1))) := sEq.rf.pI (by simp)
            have hI3 : roI (pI S2 (r + 5) (p d) (nI (t (p d) - 1 + 1))) r N x a k2 := hI2.keep hE4 (by simp only [List.mem_cons, List.not_mem_nil, or_false, not_or]; omega) (by simp only [List.mem_cons, List.not_mem_nil, or_false, not_or]; omega) (by simp only [List.mem_cons, List.not_mem_nil, or_false, not_or]; omega) (by simp only [List.mem_cons, List.not_mem_nil, or_false, not_or]; omega) (by simp only [List.mem_cons, List.not_mem_nil, or_false, not_or]; omega)
            have hWu : gW a T h u ↔ h ≤ mLe (cWm a k2 u) (aR a) := by
              show h ≤ mLe (gC a T u) (aR a) ↔ _
              rw [gC_le ha.1 hT (show u < T by omega), cWm_pre hT hi2 hu]
            refine t_callV 148 M_ro_isWarm 2 2 [_, _] (ab_dd tk_ro_longestWarm 87 rfl) rfl (by first | decide | omega) K_ro_isWarm V_ro_isWarm.1 V_ro_isWarm.2 L_ro_100 rfl (Nat.le_of_ble_eq_true rfl) (by have := hO3.1; omega) (Nat.lt_of_le_of_lt (Nat.le_add_right r 7) hO3.2.1) hO3.2.2.1 rfl (c_ro_isWarm hO3 ha.1 hI3 u h hu hh) (fun v1 w1 h1 => ?_)
            obtain ⟨rfl, rfl⟩ := h1
            refine xb_if_ne 151 154 (ab_dd tk_ro_longestWarm 88 rfl) rfl (by decide) (fun h148 => ?_) (fun h148 => ?_)
            · have hWW : gW a T h u := hWu.mpr h148
              have hV3 : ∀ v, v < N → sI (pI S2 (r + 5) (p d) (nI (t (p d) - 1 + 1))) (r + 5) v = nI ((up1 t (p d) (t (p d) + 1)) v) - nI 1 := (fun v hv => by
                  by_cases z : v = p d
                  · rw [z, gI_s, up1_s, show t (p d) - 1 + 1 = t (p d) by omega, pk_sub (by omega)]; rfl
                  · rw [gI_k z, up1_o z]; exact htm2 v hv)
              by_cases h6 : t u = 6
              · have hune : u ≠ p d := fun z => by rw [z] at h6; omega
                have hval : sI (pI S2 (r + 5) (p d) (nI (t (p d) - 1 + 1))) (r + 5) u = nI 5 := by
                  rw [hV3 u (by omega), up1_o hune, h6]; decide
                refine x_aload_n 155 0 (ab_dd tk_ro_longestWarm 90 rfl) rfl rfl rfl ?_
                refine t_getP 158 (r + 5) (ab_dd tk_ro_longestWarm 91 rfl) rfl F_ro_51 (by have := hO3.1; omega) (Nat.lt_of_le_of_lt (Nat.le_add_right r 7) hO3.2.1) hO3.2.2.1 rfl hO3.2.2.2.2.2.2.2.2.2.2.2.2.2.2.2.1 ?_
                refine x_iload 160 5 (ab_dd tk_ro_longestWarm 92 rfl) rfl rfl ?_
                refine t_iald 161 u (ab_dd tk_ro_longestWarm 93 rfl) rfl (by have := hO3.1; omega) (Nat.lt_of_le_of_lt (Nat.add_le_add_left (by decide) r) hO3.2.1) hO3.2.2.2.2.2.2.2.1 rfl (by omega) (by omega) (x_topn 5 hval ?_)
                refine x_iconst 162 5 (ab_dd tk_ro_longestWarm 94 rfl) rfl (by decide) (x_topn 5 rfl ?_)
                refine x_icmp_ne_f 165 (ab_dd tk_ro_longestWarm 95 rfl) rfl 176 (by decide) ((nI_eq (a := 5) (b := 5) (by omega) (by omega)).mpr (show 5 = 5 by omega)) ?_
                refine x_aload_n 166 0 (ab_dd tk_ro_longestWarm 96 rfl) rfl rfl rfl ?_
                refine x_iload 168 4 (ab_dd tk_ro_longestWarm 97 rfl) rfl rfl ?_
                refine x_iload 170 5 (ab_dd tk_ro_longestWarm 98 rfl) rfl rfl ?_
                refine t_callV 173 M_ro_lengthen 1 2 [_, _] (ab_dd tk_ro_longestWarm 99 rfl) rfl (by first | decide | omega) K_ro_lengthen V_ro_lengthen.1 V_ro_lengthen.2 L_ro_120 rfl (Nat.le_of_ble_eq_true rfl) (by have := hO3.1; omega) (Nat.lt_of_le_of_lt (Nat.le_add_right r 7) hO3.2.1) hO3.2.2.1 rfl (c_ro_lengthen hO3 (p d) u (f (p d)) (f u) (by omega) (by omega) (by have := hfb _ hpd1; omega) (by have := hfb u (by omega); omega) (by rw [gI_o (by omega)]; exact hfm2 _ (by omega)) (by rw [gI_o (by omega)]; exact hfm2 _ (by omega))) (fun v1 w1 h1 => ?_)
                obtain ⟨rfl, rfl⟩ := h1
                refine x_goto 217 (ab_dd tk_ro_longestWarm 100 rfl) (by decide) ?_
                refine xn_iinc 220 3 (fun y => [some (.ref r), some (.int (nI h)), some (.int (nI (d + 1))), some (.int y), some (.int (nI (p d))), some (.int (nI u))]) (i + 1) (ab_dd tk_ro_longestWarm 125 rfl) rfl (by decide) rfl (fun _ => rfl) (iinc_p 1) ?_
                refine x_goto 34 (ab_dd tk_ro_longestWarm 126 rfl) (by decide) ?_
                have hE5 : sEq [r + 5, r + 6] S2 (pI (pI S2 (r + 5) (p d) (nI (t (p d) - 1 + 1))) (r + 6) (p d) (nI (mx1 (f (p d)) (f u)))) := (sEq.rf.pI (by simp)).pI (by simp)
                exact ih (i + 1) (by omega) (d + 1) p (up1 t (p d) (t (p d) + 1)) (up1 f (p d) (mx1 (f (p d)) (f u))) (pI (pI S2 (r + 5) (p d) (nI (t (p d) - 1 + 1))) (r + 6) (p d) (nI (mx1 (f (p d)) (f u)))) k2 _ _ (hD.left hgT h4 hgo hWW h6) hp0 (by
                  by_cases z : 0 = p d
                  · rw [← z, up1_s]; omega
                  · rw [up1_o z]; exact ht0) (hx2.tr (hE5.mono (fun u hu => by simp only [List.mem_cons, List.not_mem_nil, or_false] at hu ⊢; omega))) ((hcl2.eq hE5 (by simp only [List.mem_cons, List.not_mem_nil, or_false, not_or]; omega) (fun u hu => hri u (by simp only [List.mem_cons, List.not_mem_nil, or_false] at hu; omega) (by simp only [List.mem_cons, List.not_mem_nil, or_false] at hu; omega)) (by simp only [List.mem_cons, List.not_mem_nil, or_false, not_or]; omega) (by simp only [List.mem_cons, List.not_mem_nil, or_false, not_or]; omega) (by simp only [List.mem_cons, List.not_mem_nil, or_false, not_or]; omega))) ((hI2.keep hE5 (by simp only [List.mem_cons, List.not_mem_nil, or_false, not_or]; omega) (by simp only [List.mem_cons, List.not_mem_nil, or_false, not_or]; omega) (by simp only [List.mem_cons, List.not_mem_nil, or_false, not_or]; omega) (by simp only [List.mem_cons, List.not_mem_nil, or_false, not_or]; omega) (by simp only [List.mem_cons, List.not_mem_nil, or_false, not_or]; omega))) ((congrFun (hE5.2.2.1 r (by simp only [List.mem_cons, List.not_mem_nil, or_false, not_or]; omega)) 9).trans (hn9.trans h9)) ((congrFun (hE5.2.2.1 r (by simp only [List.mem_cons, List.not_mem_nil, or_false, not_or]; omega)) 14).trans (hn14.trans h14)) (by omega) hpl2 (fun j hj => by rw [hE5.2.2.1 (r + 7) (by simp only [List.mem_cons, List.not_mem_nil, or_false, not_or]; omega)]; exact hpm2 j hj) (fun v hv => by rw [gI_o (by omega)]; exact hV3 v hv) (fun v hv => by
                    by_cases z : v = p d
                    · rw [z, gI_s, up1_s]
                    · rw [gI_k z, up1_o z, gI_o (by omega)]; exact hfm2 v hv)
              · by_cases h0 : t u = 0
                · have hune : u ≠ p d := fun z => by rw [z] at h0; omega
                  have hval : sI (pI S2 (r + 5) (p d) (nI (t (p d) - 1 + 1))) (r + 5) u = -1 := by
                    rw [hV3 u (by omega), up1_o hune, h0]; decide
                  have hdT2 : d + 2 ≤ T := inj_le (fun j hj => ((hD.push hgT h4 hgo hWW h0).2.1 j hj).1) (fun j l h1 h2 => (hD.push hgT h4 hgo hWW h0).2.2.2.1 j l h1 h2)
                  refine x_aload_n 155 0 (ab_dd tk_ro_longestWarm 90 rfl) rfl rfl rfl ?_
                  refine t_getP 158 (r + 5) (ab_dd tk_ro_longestWarm 91 rfl) rfl F_ro_51 (by have := hO3.1; omega) (Nat.lt_of_le_of_lt (Nat.le_add_right r 7) hO3.2.1) hO3.2.2.1 rfl hO3.2.2.2.2.2.2.2.2.2.2.2.2.2.2.2.1 ?_
                  refine x_iload 160 5 (ab_dd tk_ro_longestWarm 92 rfl) rfl rfl ?_
                  refine t_iald 161 u (ab_dd tk_ro_longestWarm 93 rfl) rfl (by have := hO3.1; omega) (Nat.lt_of_le_of_lt (Nat.add_le_add_left (by decide) r) hO3.2.1) hO3.2.2.2.2.2.2.2.1 rfl (by omega) (by omega) (x_topx (-1) hval ?_)
                  refine x_iconst 162 5 (ab_dd tk_ro_longestWarm 94 rfl) rfl (by decide) (x_topn 5 rfl ?_)
                  refine x_icmp_ne_t 176 (ab_dd tk_ro_longestWarm 95 rfl) (by decide) (by decide) ?_
                  refine x_aload_n 177 0 (ab_dd tk_ro_longestWarm 101 rfl) rfl rfl rfl ?_
                  refine t_getP 180 (r + 5) (ab_dd tk_ro_longestWarm 102 rfl) rfl F_ro_51 (by have := hO3.1; omega) (Nat.lt_of_le_of_lt (Nat.le_add_right r 7) hO3.2.1) hO3.2.2.1 rfl hO3.2.2.2.2.2.2.2.2.2.2.2.2.2.2.2.1 ?_
                  refine x_iload 182 5 (ab_dd tk_ro_longestWarm 103 rfl) rfl rfl ?_
                  refine t_iald 183 u (ab_dd tk_ro_longestWarm 104 rfl) rfl (by have := hO3.1; omega) (Nat.lt_of_le_of_lt (Nat.add_le_add_left (by decide) r) hO3.2.1) hO3.2.2.2.2.2.2.2.1 rfl (by omega) (by omega) (x_topx (-1) hval ?_)
                  refine x_iconst 184 (-1) (ab_dd tk_ro_longestWarm 105 rfl) rfl (by decide) ?_
                  refine x_icmp_ne_f 187 (ab_dd tk_ro_longestWarm 106 rfl) rfl 196 (by decide) rfl ?_
                  refine x_iload_n 188 2 (ab_dd tk_ro_longestWarm 107 rfl) rfl rfl rfl ?_
                  refine x_aload_n 189 0 (ab_dd tk_ro_longestWarm 108 rfl) rfl rfl rfl ?_
                  refine t_getP 192 (r + 7) (ab_dd tk_ro_longestWarm 109 rfl) rfl F_ro_57 (by have := hO3.1; omega) (Nat.lt_of_le_of_lt (Nat.le_add_right r 7) hO3.2.1) hO3.2.2.1 rfl hO3.2.2.2.2.2.2.2.2.2.2.2.2.2.2.2.2.2.1 ?_
                  refine t_alen 193 0 (ab_dd tk_ro_longestWarm 110 rfl) rfl (by have := hO3.1; omega) (Nat.lt_of_le_of_lt (Nat.add_le_add_left (by decide) r) hO3.2.1) rfl hO3.2.2.2.2.2.2.2.2.2.1 ?_
                  refine x_icmp_lt_t 198 (ab_dd tk_ro_longestWarm 111 rfl) (by decide) ((nI_ltI (a := (d + 1)) (b := N) (by omega) (by omega)).mpr (show (d + 1) < N by omega)) ?_
                  refine x_aload_n 199 0 (ab_dd tk_ro_longestWarm 114 rfl) rfl rfl rfl ?_
                  refine t_getP 202 (r + 5) (ab_dd tk_ro_longestWarm 115 rfl) rfl F_ro_51 (by have := hO3.1; omega) (Nat.lt_of_le_of_lt (Nat.le_add_right r 7) hO3.2.1) hO3.2.2.1 rfl hO3.2.2.2.2.2.2.2.2.2.2.2.2.2.2.2.1 ?_
                  refine x_iload 204 5 (ab_dd tk_ro_longestWarm 116 rfl) rfl rfl ?_
                  refine x_iconst 205 0 (ab_dd tk_ro_longestWarm 117 rfl) rfl (by decide) (x_topn 0 rfl ?_)
                  refine t_iast 206 u (ab_dd tk_ro_longestWarm 118 rfl) rfl (by have := hO3.1; omega) (Nat.lt_of_le_of_lt (Nat.add_le_add_left (by decide) r) hO3.2.1) hO3.2.2.2.2.2.2.2.1 rfl (by omega) (by omega) ?_
                  refine x_aload_n 207 0 (ab_dd tk_ro_longestWarm 119 rfl) rfl rfl rfl ?_
                  refine t_getP 210 (r + 7) (ab_dd tk_ro_longestWarm 120 rfl) rfl F_ro_57 (by have := hO3.1; omega) (Nat.lt_of_le_of_lt (Nat.le_add_right r 7) hO3.2.1) hO3.2.2.1 rfl hO3.2.2.2.2.2.2.2.2.2.2.2.2.2.2.2.2.2.1 ?_
                  refine x_iload_n 211 2 (ab_dd tk_ro_longestWarm 121 rfl) rfl rfl rfl ?_
                  refine x_iload 213 5 (ab_dd tk_ro_longestWarm 122 rfl) rfl rfl ?_
                  refine t_iast 214 (d + 1) (ab_dd tk_ro_longestWarm 123 rfl) rfl (by have := hO3.1; omega) (Nat.lt_of_le_of_lt (Nat.add_le_add_left (by decide) r) hO3.2.1) hO3.2.2.2.2.2.2.2.2.2.1 rfl (by omega) (by omega) ?_
                  refine xn_iinc 217 2 (fun y => [some (.ref r), some (.int (nI h)), some (.int y), some (.int (nI i)), some (.int (nI (p d))), some (.int (nI u))]) ((d + 1) + 1) (ab_dd tk_ro_longestWarm 124 rfl) rfl (by decide) rfl (fun _ => rfl) (iinc_p 1) ?_
                  refine xn_iinc 220 3 (fun y => [some (.ref r), some (.int (nI h)), some (.int (nI ((d + 1) + 1))), some (.int y), some (.int (nI (p d))), some (.int (nI u))]) (i + 1) (ab_dd tk_ro_longestWarm 125 rfl) rfl (by decide) rfl (fun _ => rfl) (iinc_p 1) ?_
                  refine x_goto 34 (ab_dd tk_ro_longestWarm 126 rfl) (by decide) ?_
                  have hE5 : sEq [r + 5, r + 7] S2 (pI (pI (pI S2 (r + 5) (p d) (nI (t (p d) - 1 + 1))) (r + 5) u (nI 0)) (r + 7) (d + 1) (nI u)) := ((sEq.rf.pI (by simp)).pI (by simp)).pI (by simp)
                  exact ih (i + 1) (by omega) (d + 2) (up1 p (d + 1) u) (up1 (up1 t (p d) (t (p d) + 1)) u 1) f _ k2 _ _ (hD.push hgT h4 hgo hWW h0) (by rw [up1_o (by omega)]; exact hp0) (by
                    by_cases y : 0 = u
                    · rw [← y, up1_s]; decide
                    · rw [up1_o y]
                      by_cases z : 0 = p d
                      · rw [← z, up1_s]; omega
                      · rw [up1_o z]; exact ht0) (hx2.tr (hE5.mono (fun u hu => by simp only [List.mem_cons, List.not_mem_nil, or_false] at hu ⊢; omega))) ((hcl2.eq hE5 (by simp only [List.mem_cons, List.not_mem_nil, or_false, not_or]; omega) (fun u hu => hri u (by simp only [List.mem_cons, List.not_mem_nil, or_false] at hu; omega) (by simp only [List.mem_cons, List.not_mem_nil, or_false] at hu; omega)) (by simp only [List.mem_cons, List.not_mem_nil, or_false, not_or]; omega) (by simp only [List.mem_cons, List.not_mem_nil, or_false, not_or]; omega) (by simp only [List.mem_cons, List.not_mem_nil, or_false, not_or]; omega))) ((hI2.keep hE5 (by simp only [List.mem_cons, List.not_mem_nil, or_false, not_or]; omega) (by simp only [List.mem_cons, List.not_mem_nil, or_false, not_or]; omega) (by simp only [List.mem_cons, List.not_mem_nil, or_false, not_or]; omega) (by simp only [List.mem_cons, List.not_mem_nil, or_false, not_or]; omega) (by simp only [List.mem_cons, List.not_mem_nil, or_false, not_or]; omega))) ((congrFun (hE5.2.2.1 r (by simp only [List.mem_cons, List.not_mem_nil, or_false, not_or]; omega)) 9).trans (hn9.trans h9)) ((congrFun (hE5.2.2.1 r (by simp only [List.mem_cons, List.not_mem_nil, or_false, not_or]; omega)) 14).trans (hn14.trans h14)) (by omega) (fun j hj => by
                      by_cases z : j = d + 1
                      · rw [z, up1_s]; exact hu
                      · rw [up1_o z]; exact hpl2 j (by omega)) (fun j hj => by
                      by_cases z : j = d + 1
                      · rw [z, gI_s, up1_s]
                      · rw [gI_k z, up1_o z, gI_o (by omega), gI_o (by omega)]; exact hpm2 j (by omega)) (fun v hv => by
                      rw [gI_o (by omega)]
                      by_cases z : v = u
                      · rw [z, gI_s, up1_s]; decide
                      · rw [gI_k z, up1_o z]; exact hV3 v hv) (fun v hv => by rw [gI_o (by omega), gI_o (by omega), gI_o (by omega)]; exact hfm2 v hv)
                · have hu6 := hD.1 u (by omega)
                  have hT1 : 1 ≤ (up1 t (p d) (t (p d) + 1)) u ∧ (up1 t (p d) (t (p d) + 1)) u ≤ 5 := by
                    by_cases z : u = p d
                    · rw [z, up1_s]; omega
                    · rw [up1_o z]; omega
                  have hval : sI (pI S2 (r + 5) (p d) (nI (t (p d) - 1 + 1))) (r + 5) u = nI ((up1 t (p d) (t (p d) + 1)) u - 1) := by
                    rw [hV3 u (by omega), pk_sub hT1.1]
                  refine x_aload_n 155 0 (ab_dd tk_ro_longestWarm 90 rfl) rfl rfl rfl ?_
                  refine t_getP 158 (r + 5) (ab_dd tk_ro_longestWarm 91 rfl) rfl F_ro_51 (by have := hO3.1; omega) (Nat.lt_of_le_of_lt (Nat.le_add_right r 7) hO3.2.1) hO3.2.2.1 rfl hO3.2.2.2.2.2.2.2.2.2.2.2.2.2.2.2.1 ?_
                  refine x_iload 160 5 (ab_dd tk_ro_longestWarm 92 rfl) rfl rfl ?_
                  refine t_iald 161 u (ab_dd tk_ro_longestWarm 93 rfl) rfl (by have := hO3.1; omega) (Nat.lt_of_le_of_lt (Nat.add_le_add_left (by decide) r) hO3.2.1) hO3.2.2.2.2.2.2.2.1 rfl (by omega) (by omega) (x_topn ((up1 t (p d) (t (p d) + 1)) u - 1) hval ?_)
                  refine x_iconst 162 5 (ab_dd tk_ro_longestWarm 94 rfl) rfl (by decide) (x_topn 5 rfl ?_)
                  refine x_icmp_ne_t 176 (ab_dd tk_ro_longestWarm 95 rfl) (by decide) (fun z => absurd ((nI_eq (a := ((up1 t (p d) (t (p d) + 1)) u - 1)) (b := 5) (by omega) (by omega)).mp z) (show ¬ (((up1 t (p d) (t (p d) + 1)) u - 1) = 5) by omega)) ?_
                  refine x_aload_n 177 0 (ab_dd tk_ro_longestWarm 101 rfl) rfl rfl rfl ?_
                  refine t_getP 180 (r + 5) (ab_dd tk_ro_longestWarm 102 rfl) rfl F_ro_51 (by have := hO3.1; omega) (Nat.lt_of_le_of_lt (Nat.le_add_right r 7) hO3.2.1) hO3.2.2.1 rfl hO3.2.2.2.2.2.2.2.2.2.2.2.2.2.2.2.1 ?_
                  refine x_iload 182 5 (ab_dd tk_ro_longestWarm 103 rfl) rfl rfl ?_
                  refine t_iald 183 u (ab_dd tk_ro_longestWarm 104 rfl) rfl (by have := hO3.1; omega) (Nat.lt_of_le_of_lt (Nat.add_le_add_left (by decide) r) hO3.2.1) hO3.2.2.2.2.2.2.2.1 rfl (by omega) (by omega) (x_topn ((up1 t (p d) (t (p d) + 1)) u - 1) hval ?_)
                  refine x_iconst 184 (-1) (ab_dd tk_ro_longestWarm 105 rfl) rfl (by decide) ?_
                  refine x_icmp_ne_t 196 (ab_dd tk_ro_longestWarm 106 rfl) (by decide) (nI_nm1 (by omega)) ?_
                  refine x_iconst 197 (-1) (ab_dd tk_ro_longestWarm 112 rfl) rfl (by decide) ?_
                  exact x_iret (ab_dd tk_ro_longestWarm 113 rfl) ⟨_, k2, _, rfl, rfl, hx2.tr (hE4.mono (fun u hu => by simp only [List.mem_cons, List.not_mem_nil, or_false] at hu ⊢; omega)), ((hcl2.eq hE4 (by simp only [List.mem_cons, List.not_mem_nil, or_false, not_or]; omega) (fun u hu => hri u (by simp only [List.mem_cons, List.not_mem_nil, or_false] at hu; omega) (by simp only [List.mem_cons, List.not_mem_nil, or_false] at hu; omega)) (by simp only [List.mem_cons, List.not_mem_nil, or_false, not_or]; omega) (by simp only [List.mem_cons, List.not_mem_nil, or_false, not_or]; omega) (by simp only [List.mem_cons, List.not_mem_nil, or_false, not_or]; omega))), ((hI2.keep hE4 (by simp only [List.mem_cons, List.not_mem_nil, or_false, not_or]; omega) (by simp only [List.mem_cons, List.not_mem_nil, or_false, not_or]; omega) (by simp only [List.mem_cons, List.not_mem_nil, or_false, not_or]; omega) (by simp only [List.mem_cons, List.not_mem_nil, or_false, not_or]; omega) (by simp only [List.mem_cons, List.not_mem_nil, or_false, not_or]; omega))), (congrFun (hE4.2.2.1 r (by simp only [List.mem_cons, List.not_mem_nil, or_false, not_or]; omega)) 9).trans (hn9.trans h9), (congrFun (hE4.2.2.1 r (by simp only [List.mem_cons, List.not_mem_nil, or_false, not_or]; omega)) 14).trans (hn14.trans h14), by omega, Or.inr ⟨fun m => by have z := hD.round hgT h4 hgo hWW h0 h6 m; rw [hp0] at z; exact z, rfl⟩⟩
            · refine x_goto 217 (ab_dd tk_ro_longestWarm 89 rfl) (by decide) ?_
              refine xn_iinc 220 3 (fun y => [some (.ref r), some (.int (nI h)), some (.int (nI (d + 1))), some (.int y), some (.int (nI (p d))), some (.int (nI u))]) (i + 1) (ab_dd tk_ro_longestWarm 125 rfl) rfl (by decide) rfl (fun _ => rfl) (iinc_p 1) ?_
              refine x_goto 34 (ab_dd tk_ro_longestWarm 126 rfl) (by decide) ?_
              have hE4 : sEq [r + 5] S2 (pI S2 (r + 5) (p d) (nI (t (p d) - 1 + 1))) := sEq.rf.pI (by simp)
              exact ih (i + 1) (by omega) (d + 1) p (up1 t (p d) (t (p d) + 1)) f _ k2 _ _ (hD.skip h4 (fun v hv => by
                rw [hgo] at hv
                rw [← Option.some.inj hv, show gW a T h u ↔ h ≤ mLe (cWm a k2 u) (aR a) from hWu]
                exact h148)) hp0 (by
                by_cases z : 0 = p d
                · rw [← z, up1_s]; omega
                · rw [up1_o z]; exact ht0) (hx2.tr (hE4.mono (fun u hu => by simp only [List.mem_cons, List.not_mem_nil, or_false] at hu ⊢; omega))) ((hcl2.eq hE4 (by simp only [List.mem_cons, List.not_mem_nil, or_false, not_or]; omega) (fun u hu => hri u (by simp only [List.mem_cons, List.not_mem_nil, or_false] at hu; omega) (by simp only [List.mem_cons, List.not_mem_nil, or_false] at hu; omega)) (by simp only [List.mem_cons, List.not_mem_nil, or_false, not_or]; omega) (by simp only [List.mem_cons, List.not_mem_nil, or_false, not_or]; omega) (by simp only [List.mem_cons, List.not_mem_nil, or_false, not_or]; omega))) ((hI2.keep hE4 (by simp only [List.mem_cons, List.not_mem_nil, or_false, not_or]; omega) (by simp only [List.mem_cons, List.not_mem_nil, or_false, not_or]; omega) (by simp only [List.mem_cons, List.not_mem_nil, or_false, not_or]; omega) (by simp only [List.mem_cons, List.not_mem_nil, or_false, not_or]; omega) (by simp only [List.mem_cons, List.not_mem_nil, or_false, not_or]; omega))) ((congrFun (hE4.2.2.1 r (by simp only [List.mem_cons, List.not_mem_nil, or_false, not_or]; omega)) 9).trans (hn9.trans h9)) ((congrFun (hE4.2.2.1 r (by simp only [List.mem_cons, List.not_mem_nil, or_false, not_or]; omega)) 14).trans (hn14.trans h14)) (by omega) hpl2 (fun j hj => by rw [hE4.2.2.1 (r + 7) (by simp only [List.mem_cons, List.not_mem_nil, or_false, not_or]; omega)]; exact hpm2 j hj) (fun v hv => by
                  by_cases z : v = p d
                  · rw [z, gI_s, up1_s, show t (p d) - 1 + 1 = t (p d) by omega, pk_sub (by omega)]; rfl
                  · rw [gI_k z, up1_o z]; exact htm2 v hv) (fun v hv => by rw [gI_o (by omega)]; exact hfm2 v hv)
  refine x_aload_n 1 0 (ab_dd tk_ro_longestWarm 0 rfl) rfl rfl rfl ?_
  refine t_getP 4 (r + 5) (ab_dd tk_ro_longestWarm 1 rfl) rfl F_ro_51 (by have := hO.1; omega) (Nat.lt_of_le_of_lt (Nat.le_add_right r 7) hO.2.1) hO.2.2.1 rfl hO.2.2.2.2.2.2.2.2.2.2.2.2.2.2.2.1 ?_
  refine x_iconst 5 (-1) (ab_dd tk_ro_longestWarm 2 rfl) rfl (by decide) ?_
  refine x_callS 8 M_jA_fill_0 0 2 [_, _] (ab_dd tk_ro_longestWarm 3 rfl) rfl (by first | decide | omega) K_jA_fill_0 T_jA_fill_0 L_ro_110 rfl (Nat.le_of_ble_eq_true rfl) (c_jA_fill_0 (S := S) (a := r + 5) (n := N) (by omega) (by have := hO.2.1; omega) hO.2.2.2.2.2.2.2.1 (by omega) _) (fun v1 w1 h1 => ?_)
  obtain ⟨rfl, S2, rfl, hE2, -, hv2⟩ := h1
  have hO2 : roK S2 r N := hO.eq hE2
  refine x_aload_n 9 0 (ab_dd tk_ro_longestWarm 4 rfl) rfl rfl rfl ?_
  refine t_getP 12 (r + 6) (ab_dd tk_ro_longestWarm 5 rfl) rfl F_ro_54 (by have := hO2.1; omega) (Nat.lt_of_le_of_lt (Nat.le_add_right r 7) hO2.2.1) hO2.2.2.1 rfl hO2.2.2.2.2.2.2.2.2.2.2.2.2.2.2.2.2.1 ?_
  refine x_iconst 13 0 (ab_dd tk_ro_longestWarm 6 rfl) rfl (by decide) (x_topn 0 rfl ?_)
  refine x_callS 16 M_jA_fill_0 0 2 [_, _] (ab_dd tk_ro_longestWarm 7 rfl) rfl (by first | decide | omega) K_jA_fill_0 T_jA_fill_0 L_ro_110 rfl (Nat.le_of_ble_eq_true rfl) (c_jA_fill_0 (S := S2) (a := r + 6) (n := N) (by omega) (by have := hO2.2.1; omega) hO2.2.2.2.2.2.2.2.2.1 (by omega) _) (fun v1 w1 h1 => ?_)
  obtain ⟨rfl, S3, rfl, hE3, -, hv3⟩ := h1
  have hO3 : roK S3 r N := hO2.eq hE3
  refine x_iconst 17 1 (ab_dd tk_ro_longestWarm 8 rfl) rfl (by decide) (x_topn 1 rfl ?_)
  refine x_istore_n 18 [some (.ref r), some (.int (nI h)), some (.int (nI 1)), none, none, none] 2 (ab_dd tk_ro_longestWarm 9 rfl) rfl rfl (by decide) rfl ?_
  refine x_aload_n 19 0 (ab_dd tk_ro_longestWarm 10 rfl) rfl rfl rfl ?_
  refine t_getP 22 (r + 7) (ab_dd tk_ro_longestWarm 11 rfl) rfl F_ro_57 (by have := hO3.1; omega) (Nat.lt_of_le_of_lt (Nat.le_add_right r 7) hO3.2.1) hO3.2.2.1 rfl hO3.2.2.2.2.2.2.2.2.2.2.2.2.2.2.2.2.2.1 ?_
  refine x_iconst 23 0 (ab_dd tk_ro_longestWarm 12 rfl) rfl (by decide) (x_topn 0 rfl ?_)
  refine x_iconst 24 0 (ab_dd tk_ro_longestWarm 13 rfl) rfl (by decide) (x_topn 0 rfl ?_)
  refine t_iast 25 0 (ab_dd tk_ro_longestWarm 14 rfl) rfl (by have := hO3.1; omega) (Nat.lt_of_le_of_lt (Nat.add_le_add_left (by decide) r) hO3.2.1) hO3.2.2.2.2.2.2.2.2.2.1 rfl (by omega) (by omega) ?_
  refine x_aload_n 26 0 (ab_dd tk_ro_longestWarm 15 rfl) rfl rfl rfl ?_
  refine t_getP 29 (r + 5) (ab_dd tk_ro_longestWarm 16 rfl) rfl F_ro_51 (by have := hO3.1; omega) (Nat.lt_of_le_of_lt (Nat.le_add_right r 7) hO3.2.1) hO3.2.2.1 rfl hO3.2.2.2.2.2.2.2.2.2.2.2.2.2.2.2.1 ?_
  refine x_iconst 30 0 (ab_dd tk_ro_longestWarm 17 rfl) rfl (by decide) (x_topn 0 rfl ?_)
  refine x_iconst 31 0 (ab_dd tk_ro_longestWarm 18 rfl) rfl (by decide) (x_topn 0 rfl ?_)
  refine t_iast 32 0 (ab_dd tk_ro_longestWarm 19 rfl) rfl (by have := hO3.1; omega) (Nat.lt_of_le_of_lt (Nat.add_le_add_left (by decide) r) hO3.2.1) hO3.2.2.2.2.2.2.2.1 rfl (by omega) (by omega) ?_
  refine x_iconst 33 0 (ab_dd tk_ro_longestWarm 20 rfl) rfl (by decide) (x_topn 0 rfl ?_)
  refine x_istore_n 34 [some (.ref r), some (.int (nI h)), some (.int (nI 1)), some (.int (nI 0)), none, none] 3 (ab_dd tk_ro_longestWarm 21 rfl) rfl rfl (by decide) rfl ?_
  have hE4 : sEq [r + 5, r + 6, r + 7] S (pI (pI S3 (r + 7) 0 (nI 0)) (r + 5) 0 (nI 0)) := (((hE2.mono (by simp)).tr (hE3.mono (by simp))).pI (by simp)).pI (by simp)
  refine loop (6 * N + 1) 0 (by omega) 1 (fun _ => 0) (up1 (fun _ => 0) 0 1) (fun _ => 0) _ k _ _ (dfI.start hT0 rfl) rfl (by rw [up1_s]; decide) (hE4.mono (fun u hu => by simp only [List.mem_cons, List.not_mem_nil, or_false] at hu ⊢; omega)) ((hcl.eq hE4 (by simp only [List.mem_cons, List.not_mem_nil, or_false, not_or]; omega) (fun u hu => hri u (by simp only [List.mem_cons, List.not_mem_nil, or_false] at hu; omega) (by simp only [List.mem_cons, List.not_mem_nil, or_false] at hu; omega)) (by simp only [List.mem_cons, List.not_mem_nil, or_false, not_or]; omega) (by simp only [List.mem_cons, List.not_mem_nil, or_false, not_or]; omega) (by simp only [List.mem_cons, List.not_mem_nil, or_false, not_or]; omega))) ((hI.keep hE4 (by simp only [List.mem_cons, List.not_mem_nil, or_false, not_or]; omega) (by simp only [List.mem_cons, List.not_mem_nil, or_false, not_or]; omega) (by simp only [List.mem_cons, List.not_mem_nil, or_false, not_or]; omega) (by simp only [List.mem_cons, List.not_mem_nil, or_false, not_or]; omega) (by simp only [List.mem_cons, List.not_mem_nil, or_false, not_or]; omega))) (congrFun (hE4.2.2.1 r (by simp only [List.mem_cons, List.not_mem_nil, or_false, not_or]; omega)) 9) (congrFun (hE4.2.2.1 r (by simp only [List.mem_cons, List.not_mem_nil, or_false, not_or]; omega)) 14) (Nat.le_refl _) (fun _ _ => hpos) (fun j hj => ?_) (fun v hv => ?_) (fun v hv => ?_)
  · have hj0 : j = 0 := by omega
    rw [hj0, gI_o (by omega), gI_s]
  · by_cases y : v = 0
    · rw [y, gI_s, up1_s]; decide
    · rw [gI_k y, gI_o (by omega), hE3.2.2.1 (r + 5) (by simp only [List.mem_cons, List.not_mem_nil, or_false, not_or]; omega), hv2, if_pos hv, up1_o y]; decide
  · rw [gI_o (by omega), gI_o (by omega), hv3, if_pos hv]
