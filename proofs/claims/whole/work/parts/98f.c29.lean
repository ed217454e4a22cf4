/-! ===== forcing: solved ===== -/
def foD (S : ab_S) (F T : Nat) (g : Nat → Nat → Option Nat) (W : Nat → Prop) : Prop := ∃ R, (∀ x, x < 2 * T → sI S (F + 1) x = encN (R x)) ∧ fcR g W T R
theorem foD.eq {S S' : ab_S} {F T : Nat} {g : Nat → Nat → Option Nat} {W : Nat → Prop} {l : List Nat} (h : foD S F T g W) (hE : sEq l S S') (h1 : F + 1 ∉ l) : foD S' F T g W := by
  unfold foD
  rw [hE.2.2.1 (F + 1) h1]
  exact h
def tb_fo_solve : List (Nat × Instr × Nat) := [(0, .aload_n 1, 1), (1, .getfield 40, 3), (4, .aload_n 0, 1), (5, .getfield 9, 3), (8, .if_icmp .ne 20, 3), (11, .iload_n 2, 1), (12, .aload_n 0, 1), (13, .getfield 15, 3), (16, .if_icmp .ne 12, 3), (19, .iload_n 3, 1), (20, .aload_n 0, 1), (21, .getfield 18, 3), (24, .if_icmp .ne 4, 3), (27, .return_, 1), (28, .aload_n 0, 1), (29, .aload_n 1, 1), (30, .getfield 40, 3), (33, .putfield 9, 3), (36, .aload_n 0, 1), (37, .iload_n 2, 1), (38, .putfield 15, 3), (41, .aload_n 0, 1), (42, .iload_n 3, 1), (43, .putfield 18, 3), (46, .aload_n 0, 1), (47, .aload_n 1, 1), (48, .iload_n 2, 1), (49, .iload_n 3, 1), (50, .invokevirtual 45, 3), (53, .iconst 0, 1), (54, .istore 4, 2), (56, .iload 4, 2), (58, .aload_n 0, 1), (59, .getfield 21, 3), (62, .if_icmp .ge 30, 3), (65, .aload_n 0, 1), (66, .getfield 24, 3), (69, .iconst 0, 1), (70, .iaload, 1), (71, .iconst (-1), 1), (72, .if_icmp .ne 20, 3), (75, .aload_n 0, 1), (76, .aload_n 0, 1), (77, .getfield 28, 3), (80, .iload 4, 2), (82, .iaload, 1), (83, .invokevirtual 49, 3), (86, .iinc 4 1, 3), (89, .goto (-33), 3), (92, .return_, 1)]
theorem tk_fo_solve : ∀ q ∈ tb_fo_solve, decode M_fo_solve.2.1 q.1 = .ok q.2 := by decide +kernel
theorem c_fo_solve {G : ab_G} {S : ab_S} (kc : kSh S.1) {F N r x T : Nat} {a : Nat → Int32} (hF : foK S F N) (hO : roK S r N) (ha : aOk a) (hI : roI S r N x a T) (hT : (cL a T).length = T) (hFr : F + 5 < r ∨ r + 7 < F) (p h : Nat) (hp4 : p < 4) (hh : h < 2 ^ 31) (hold : sI S r 14 = sI S F 5 → nI p = sI S F 6 → nI h = sI S F 7 → foD S F T (gI a T) (gV a T p h)) : ab_C G 2 M_fo_solve [.ref F, .ref r, .int (nI p), .int (nI h)] (sw S) (fun z w' => z = none ∧ ∃ S', w' = sw S' ∧ sEq [F, F + 1, F + 2, F + 3, F + 4, F + 5] S S' ∧ foD S' F T (gI a T) (gV a T p h) ∧ sI S' F 5 = sI S r 14 ∧ sI S' F 6 = nI p ∧ sI S' F 7 = nI h) := by
  refine x_enter [some (.ref F), some (.ref r), some (.int (nI p)), some (.int (nI h)), none] (by decide) (Nat.le_of_ble_eq_true rfl) rfl (fun v w' h => by obtain ⟨rfl, -⟩ := h; trivial) ?_
  have hN15 : N ≤ 15000 := hF.2.2.2.2.2.2.2.2.2.2.2.2.2
  have hF145 := hF.1
  have hr145 := hO.1
  have h50 : 50 ≤ sn S := by have := hF.2.1; omega
  have hIb := hI
  obtain ⟨⟨q1, q2, q3, q4⟩, i2, i3, i4, i5, i6, i7, i8, i9⟩ := hIb
  have hTN : T ≤ N := by
    have z := nd_len (bfB_nd T) (fun c hc => Nat.lt_of_lt_of_le (cL_all ha T c hc) i9)
    rw [show (bfB (nxC a) (aQ a * 5 ^ aR a + aW a) T).length = T from hT] at z
    exact z
  have hgT : ∀ i d j, i < T → d < 4 → gI a T i d = some j → j < T := fun i d j hi hd e => by
    have z := gI_in ha hT (show T ≤ (cL a T).length by omega) hi hd e
    omega
  have hT0 : 0 < T := by have := (bfB_pos (nx := nxC a) (c0 := aQ a * 5 ^ aR a + aW a) T).1; rw [show (bfB (nxC a) (aQ a * 5 ^ aR a + aW a) T).length = T from hT] at this; exact this
  have loop : ∀ (m i : Nat), i + m = 2 * T + 1 → ∀ (S1 : ab_S) (Q : Nat → Nat) (q : Nat) (R : Nat → Option Nat) (pd : Nat → Bool), sEq [F, F + 1, F + 2, F + 3, F + 4, F + 5] S S1 → foQ S1 F T Q q R → fcI (gI a T) (gV a T p h) T Q q i R pd → (∀ s, s < T → sI S1 (F + 3) s = nI (es (gI a T) pd 0 (4 * T) s)) → foE S1 F T (gI a T) (4 * T) → sI S1 F 5 = sI S r 14 → sI S1 F 6 = nI p → sI S1 F 7 = nI h → ab_Ex G 2 M_fo_solve 56 [some (.ref F), some (.ref r), some (.int (nI p)), some (.int (nI h)), some (.int (nI i))] [] (sw S1) (fun z w' => z = none ∧ ∃ S', w' = sw S' ∧ sEq [F, F + 1, F + 2, F + 3, F + 4, F + 5] S S' ∧ foD S' F T (gI a T) (gV a T p h) ∧ sI S' F 5 = sI S r 14 ∧ sI S' F 6 = nI p ∧ sI S' F 7 = nI h) := by
    intro m
    induction m with
    | zero =>
      intro i hi S1 Q q R pd hE1 hQ1 hC1 hes1 hG1 h5 h6 h7
      have z1 := hC1.le
      have z2 := hC1.2.2.2.2.2.2.2.1
      omega
    | succ m ih =>
      intro i hi S1 Q q R pd hE1 hQ1 hC1 hes1 hG1 h5 h6 h7
      have hF1 : foK S1 F N := hF.eq hE1
      have hqT := hC1.le
      have hiq := hC1.2.2.2.2.2.2.2.1
      have hg8 := hQ1.1
      have hv0 := hQ1.2.2 0 (by omega)
      have hres : (i = q ∨ ∃ n, R 0 = some n) → foD S1 F T (gI a T) (gV a T p h) := fun he => ⟨R, hQ1.2.2, hC1.res hgT hT0 he (fun n hn hi => by
        obtain ⟨k, k1, k2⟩ := hC1.2.1 0 n (by omega) hn
        have := hC1.2.2.2.2.1 hi k k1
        rw [k2, rk_s hn] at this
        exact this)⟩
      rcases hc : R 0 with _ | n
      · rw [hc] at hv0
        refine x_iload 58 4 (ab_dd tk_fo_solve 31 rfl) rfl rfl ?_
        refine x_aload_n 59 0 (ab_dd tk_fo_solve 32 rfl) rfl rfl rfl ?_
        refine t_getI 62 (ab_dd tk_fo_solve 33 rfl) rfl F_fo_21 (by have := hF1.1; omega) (Nat.lt_of_le_of_lt (Nat.le_add_right F 5) hF1.2.1) hF1.2.2.1 rfl (x_topn q hg8 ?_)
        refine xn_icmp_ge 65 92 (ab_dd tk_fo_solve 34 rfl) rfl (by decide) (by omega) (by omega) (fun h62 => ?_) (fun h62 => ?_)
        · exact x_vret (ab_dd tk_fo_solve 49 rfl) ⟨rfl, S1, rfl, hE1, hres (Or.inl (by omega)), h5, h6, h7⟩
        · refine x_aload_n 66 0 (ab_dd tk_fo_solve 35 rfl) rfl rfl rfl ?_
          refine t_getP 69 (F + 1) (ab_dd tk_fo_solve 36 rfl) rfl F_fo_24 (by have := hF1.1; omega) (Nat.lt_of_le_of_lt (Nat.le_add_right F 5) hF1.2.1) hF1.2.2.1 rfl hF1.2.2.2.2.2.2.2.2.1 ?_
          refine x_iconst 70 0 (ab_dd tk_fo_solve 37 rfl) rfl (by decide) (x_topn 0 rfl ?_)
          refine t_iald 71 0 (ab_dd tk_fo_solve 38 rfl) rfl (by have := hF1.1; omega) (Nat.lt_of_le_of_lt (Nat.add_le_add_left (by decide) F) hF1.2.1) hF1.2.2.2.1 rfl (by omega) (by omega) (x_topx (-1) hv0 ?_)
          refine x_iconst 72 (-1) (ab_dd tk_fo_solve 39 rfl) rfl (by decide) ?_
          refine x_icmp_ne_f 75 (ab_dd tk_fo_solve 40 rfl) rfl 92 (by decide) rfl ?_
          refine x_aload_n 76 0 (ab_dd tk_fo_solve 41 rfl) rfl rfl rfl ?_
          refine x_aload_n 77 0 (ab_dd tk_fo_solve 42 rfl) rfl rfl rfl ?_
          refine t_getP 80 (F + 2) (ab_dd tk_fo_solve 43 rfl) rfl F_fo_28 (by have := hF1.1; omega) (Nat.lt_of_le_of_lt (Nat.le_add_right F 5) hF1.2.1) hF1.2.2.1 rfl hF1.2.2.2.2.2.2.2.2.2.1 ?_
          refine x_iload 82 4 (ab_dd tk_fo_solve 44 rfl) rfl rfl ?_
          refine t_iald 83 i (ab_dd tk_fo_solve 45 rfl) rfl (by have := hF1.1; omega) (Nat.lt_of_le_of_lt (Nat.add_le_add_left (by decide) F) hF1.2.1) hF1.2.2.2.2.1 rfl (by omega) (by omega) (x_topn (Q i) (hQ1.2.1 i h62) ?_)
          refine t_callV 86 M_fo_rankAhead 1 1 [_] (ab_dd tk_fo_solve 46 rfl) rfl (by first | decide | omega) K_fo_rankAhead V_fo_rankAhead.1 V_fo_rankAhead.2 L_fo_49 rfl (Nat.le_of_ble_eq_true rfl) (by have := hF1.1; omega) (Nat.lt_of_le_of_lt (Nat.le_add_right F 5) hF1.2.1) hF1.2.2.1 rfl (c_fo_rankAhead hF1 hTN hgT hQ1 hC1 h62 hes1 hG1) (fun v1 w1 h1 => ?_)
          obtain ⟨rfl, S3, Q3, q3, R3, rfl, hE3, hQ3, hC3, hes3, hfr3⟩ := h1
          have hF3 : foK S3 F N := hF1.eq hE3
          refine xn_iinc 89 4 (fun y => [some (.ref F), some (.ref r), some (.int (nI p)), some (.int (nI h)), some (.int y)]) (i + 1) (ab_dd tk_fo_solve 47 rfl) rfl (by decide) rfl (fun _ => rfl) (iinc_p 1) ?_
          refine x_goto 56 (ab_dd tk_fo_solve 48 rfl) (by decide) ?_
          exact ih (i + 1) (by omega) S3 Q3 q3 R3 _ (hE1.tr (hE3.mono (by simp))) hQ3 hC3 hes3 (hG1.eq hE3 (by simp) (by simp)) ((hfr3 5 (by decide)).trans h5) ((hfr3 6 (by decide)).trans h6) ((hfr3 7 (by decide)).trans h7)
      · rw [hc] at hv0
        have hn31 : n < 2 ^ 31 := by
          obtain ⟨k, k1, k2⟩ := hC1.2.1 0 n (by omega) hc
          obtain ⟨-, n1, w1, w2⟩ := hC1.1 k k1
          rw [k2, hc] at w1
          have := Option.some.inj w1
          omega
        refine x_iload 58 4 (ab_dd tk_fo_solve 31 rfl) rfl rfl ?_
        refine x_aload_n 59 0 (ab_dd tk_fo_solve 32 rfl) rfl rfl rfl ?_
        refine t_getI 62 (ab_dd tk_fo_solve 33 rfl) rfl F_fo_21 (by have := hF1.1; omega) (Nat.lt_of_le_of_lt (Nat.le_add_right F 5) hF1.2.1) hF1.2.2.1 rfl (x_topn q hg8 ?_)
        refine xn_icmp_ge 65 92 (ab_dd tk_fo_solve 34 rfl) rfl (by decide) (by omega) (by omega) (fun h62 => ?_) (fun h62 => ?_)
        · exact x_vret (ab_dd tk_fo_solve 49 rfl) ⟨rfl, S1, rfl, hE1, hres (Or.inr ⟨n, hc⟩), h5, h6, h7⟩
        · refine x_aload_n 66 0 (ab_dd tk_fo_solve 35 rfl) rfl rfl rfl ?_
          refine t_getP 69 (F + 1) (ab_dd tk_fo_solve 36 rfl) rfl F_fo_24 (by have := hF1.1; omega) (Nat.lt_of_le_of_lt (Nat.le_add_right F 5) hF1.2.1) hF1.2.2.1 rfl hF1.2.2.2.2.2.2.2.2.1 ?_
          refine x_iconst 70 0 (ab_dd tk_fo_solve 37 rfl) rfl (by decide) (x_topn 0 rfl ?_)
          refine t_iald 71 0 (ab_dd tk_fo_solve 38 rfl) rfl (by have := hF1.1; omega) (Nat.lt_of_le_of_lt (Nat.add_le_add_left (by decide) F) hF1.2.1) hF1.2.2.2.1 rfl (by omega) (by omega) (x_topx (nI n) hv0 ?_)
          refine x_iconst 72 (-1) (ab_dd tk_fo_solve 39 rfl) rfl (by decide) ?_
          refine x_icmp_ne_t 92 (ab_dd tk_fo_solve 40 rfl) (by decide) (nI_nm1 hn31) ?_
          exact x_vret (ab_dd tk_fo_solve 49 rfl) ⟨rfl, S1, rfl, hE1, hres (Or.inr ⟨n, hc⟩), h5, h6, h7⟩
  have anew : ab_Ex G 2 M_fo_solve 28 [some (.ref F), some (.ref r), some (.int (nI p)), some (.int (nI h)), none] [] (sw S) (fun z w' => z = none ∧ ∃ S', w' = sw S' ∧ sEq [F, F + 1, F + 2, F + 3, F + 4, F + 5] S S' ∧ foD S' F T (gI a T) (gV a T p h) ∧ sI S' F 5 = sI S r 14 ∧ sI S' F 6 = nI p ∧ sI S' F 7 = nI h) := by
    refine x_aload_n 29 0 (ab_dd tk_fo_solve 14 rfl) rfl rfl rfl ?_
    refine x_aload_n 30 1 (ab_dd tk_fo_solve 15 rfl) rfl rfl rfl ?_
    refine t_getI 33 (ab_dd tk_fo_solve 16 rfl) rfl F_fo_40 (by have := hO.1; omega) (Nat.lt_of_le_of_lt (Nat.le_add_right r 7) hO.2.1) hO.2.2.1 rfl (x_topx (sI S r 14) rfl ?_)
    refine t_putI 36 (ab_dd tk_fo_solve 17 rfl) rfl F_fo_9 (by have := hF.1; omega) (Nat.lt_of_le_of_lt (Nat.le_add_right F 5) hF.2.1) hF.2.2.1 rfl rfl rfl ?_
    refine x_aload_n 37 0 (ab_dd tk_fo_solve 18 rfl) rfl rfl rfl ?_
    refine x_iload_n 38 2 (ab_dd tk_fo_solve 19 rfl) rfl rfl rfl ?_
    refine t_putI 41 (ab_dd tk_fo_solve 20 rfl) rfl F_fo_15 (by have := hF.1; omega) (Nat.lt_of_le_of_lt (Nat.le_add_right F 5) hF.2.1) hF.2.2.1 rfl rfl rfl ?_
    refine x_aload_n 42 0 (ab_dd tk_fo_solve 21 rfl) rfl rfl rfl ?_
    refine x_iload_n 43 3 (ab_dd tk_fo_solve 22 rfl) rfl rfl rfl ?_
    refine t_putI 46 (ab_dd tk_fo_solve 23 rfl) rfl F_fo_18 (by have := hF.1; omega) (Nat.lt_of_le_of_lt (Nat.le_add_right F 5) hF.2.1) hF.2.2.1 rfl rfl rfl ?_
    refine x_aload_n 47 0 (ab_dd tk_fo_solve 24 rfl) rfl rfl rfl ?_
    refine x_aload_n 48 1 (ab_dd tk_fo_solve 25 rfl) rfl rfl rfl ?_
    refine x_iload_n 49 2 (ab_dd tk_fo_solve 26 rfl) rfl rfl rfl ?_
    refine x_iload_n 50 3 (ab_dd tk_fo_solve 27 rfl) rfl rfl rfl ?_
    have hE2 : sEq [F] S (pI (pI (pI S F 5 (sI S r 14)) F 6 (nI p)) F 7 (nI h)) := ((sEq.rf.pI (by simp)).pI (by simp)).pI (by simp)
    have kc2 : kSh (pI (pI (pI S F 5 (sI S r 14)) F 6 (nI p)) F 7 (nI h)).1 := kc
    refine t_callV 53 M_fo_prepare 1 3 [_, _, _] (ab_dd tk_fo_solve 28 rfl) rfl (by first | decide | omega) K_fo_prepare V_fo_prepare.1 V_fo_prepare.2 L_fo_45 rfl (Nat.le_of_ble_eq_true rfl) (by have := hF.1; omega) (Nat.lt_of_le_of_lt (Nat.le_add_right F 5) hF.2.1) hF.2.2.1 rfl (c_fo_prepare kc2 (hF.eq hE2) (hO.eq hE2) ha (hI.keep hE2 (by simp only [List.mem_cons, List.not_mem_nil, or_false, not_or]; omega) (by simp only [List.mem_cons, List.not_mem_nil, or_false, not_or]; omega) (by simp only [List.mem_cons, List.not_mem_nil, or_false, not_or]; omega) (by simp only [List.mem_cons, List.not_mem_nil, or_false, not_or]; omega) (by simp only [List.mem_cons, List.not_mem_nil, or_false, not_or]; omega)) hT hFr p h hp4 hh) (fun v1 w1 h1 => ?_)
    obtain ⟨rfl, S3, Q, q, R, rfl, hE3, hQ3, hC3, hes3, hG3, hfr3⟩ := h1
    refine x_iconst 54 0 (ab_dd tk_fo_solve 29 rfl) rfl (by decide) (x_topn 0 rfl ?_)
    refine x_istore 56 [some (.ref F), some (.ref r), some (.int (nI p)), some (.int (nI h)), some (.int (nI 0))] 4 (ab_dd tk_fo_solve 30 rfl) rfl (by decide) rfl ?_
    exact loop (2 * T + 1) 0 (by omega) S3 Q q R _ ((hE2.mono (by simp)).tr hE3) hQ3 hC3 hes3 hG3 ((hfr3 5 (by decide)).trans ((gI_k (by decide)).trans ((gI_k (by decide)).trans gI_s))) ((hfr3 6 (by decide)).trans ((gI_k (by decide)).trans gI_s)) ((hfr3 7 (by decide)).trans gI_s)
  refine x_aload_n 1 1 (ab_dd tk_fo_solve 0 rfl) rfl rfl rfl ?_
  refine t_getI 4 (ab_dd tk_fo_solve 1 rfl) rfl F_fo_40 (by have := hO.1; omega) (Nat.lt_of_le_of_lt (Nat.le_add_right r 7) hO.2.1) hO.2.2.1 rfl ?_
  refine x_aload_n 5 0 (ab_dd tk_fo_solve 2 rfl) rfl rfl rfl ?_
  refine t_getI 8 (ab_dd tk_fo_solve 3 rfl) rfl F_fo_9 (by have := hF.1; omega) (Nat.lt_of_le_of_lt (Nat.le_add_right F 5) hF.2.1) hF.2.2.1 rfl ?_
  refine x_icmp_ne 11 28 (ab_dd tk_fo_solve 4 rfl) rfl (by decide) (fun h8 => ?_) (fun h8 => ?_)
  · exact anew
  · refine x_iload_n 12 2 (ab_dd tk_fo_solve 5 rfl) rfl rfl rfl ?_
    refine x_aload_n 13 0 (ab_dd tk_fo_solve 6 rfl) rfl rfl rfl ?_
    refine t_getI 16 (ab_dd tk_fo_solve 7 rfl) rfl F_fo_15 (by have := hF.1; omega) (Nat.lt_of_le_of_lt (Nat.le_add_right F 5) hF.2.1) hF.2.2.1 rfl ?_
    refine x_icmp_ne 19 28 (ab_dd tk_fo_solve 8 rfl) rfl (by decide) (fun h16 => ?_) (fun h16 => ?_)
    · exact anew
    · refine x_iload_n 20 3 (ab_dd tk_fo_solve 9 rfl) rfl rfl rfl ?_
      refine x_aload_n 21 0 (ab_dd tk_fo_solve 10 rfl) rfl rfl rfl ?_
      refine t_getI 24 (ab_dd tk_fo_solve 11 rfl) rfl F_fo_18 (by have := hF.1; omega) (Nat.lt_of_le_of_lt (Nat.le_add_right F 5) hF.2.1) hF.2.2.1 rfl ?_
      refine x_icmp_ne 27 28 (ab_dd tk_fo_solve 12 rfl) rfl (by decide) (fun h24 => ?_) (fun h24 => ?_)
      · exact anew
      · exact x_vret (ab_dd tk_fo_solve 13 rfl) ⟨rfl, S, rfl, sEq.rf, hold h8 h16 h24, h8.symm, h16.symm, h24.symm⟩
def tb_fo_firstDeed : List (Nat × Instr × Nat) := [(0, .iconst 0, 1), (1, .istore_n 2, 1), (2, .iload_n 2, 1), (3, .iconst 4, 1), (4, .if_icmp .ge 61, 3), (7, .aload_n 0, 1), (8, .getfield 24, 3), (11, .iconst 0, 1), (12, .iaload, 1), (13, .ifCond .le 52, 3), (16, .aload_n 1, 1), (17, .iconst 0, 1), (18, .iload_n 2, 1), (19, .invokevirtual 62, 3), (22, .istore_n 3, 1), (23, .iload_n 3, 1), (24, .ifCond .lt 35, 3), (27, .iload_n 3, 1), (28, .aload_n 0, 1), (29, .getfield 31, 3), (32, .arraylength, 1), (33, .if_icmp .ge 26, 3), (36, .aload_n 0, 1), (37, .getfield 24, 3), (40, .iconst 2, 1), (41, .iload_n 3, 1), (42, .imul, 1), (43, .iconst 1, 1), (44, .iadd, 1), (45, .iaload, 1), (46, .aload_n 0, 1), (47, .getfield 24, 3), (50, .iconst 0, 1), (51, .iaload, 1), (52, .iconst 1, 1), (53, .isub, 1), (54, .if_icmp .ne 5, 3), (57, .iload_n 2, 1), (58, .ireturn, 1), (59, .iinc 2 1, 3), (62, .goto (-60), 3), (65, .iconst (-1), 1), (66, .ireturn, 1)]
theorem tk_fo_firstDeed : ∀ q ∈ tb_fo_firstDeed, decode M_fo_firstDeed.2.1 q.1 = .ok q.2 := by decide +kernel
theorem c_fo_firstDeed {G : ab_G} {S : ab_S} {F N r x T : Nat} {a : Nat → Int32} (hF : foK S F N) (hO : roK S r N) (ha : aOk a) (hI : roI S r N x a T) (hT : (cL a T).length = T) (hFr : F + 5 < r ∨ r + 7 < F) {p h : Nat} (hD : foD S F T (gI a T) (gV a T p h)) : ab_C G 1 M_fo_firstDeed [.ref F, .ref r] (sw S) (fun v w' => (∃ v0, v = some (.int v0) ∧ bsR (gI a T) (gV a T p h) 0 v0) ∧ w' = sw S) := by
  refine x_enter [some (.ref F), some (.ref r), none, none] (by decide) (Nat.le_of_ble_eq_true rfl) rfl (fun v w' h => by obtain ⟨⟨v0, rfl, -⟩, -⟩ := h; rfl) ?_
  have hN15 : N ≤ 15000 := hF.2.2.2.2.2.2.2.2.2.2.2.2.2
  have hF145 := hF.1
  have hr145 := hO.1
  have h50 : 50 ≤ sn S := by have := hF.2.1; omega
  have hIb := hI
  obtain ⟨⟨q1, q2, q3, q4⟩, i2, i3, i4, i5, i6, i7, i8, i9⟩ := hIb
  have hTN : T ≤ N := by
    have z := nd_len (bfB_nd T) (fun c hc => Nat.lt_of_lt_of_le (cL_all ha T c hc) i9)
    rw [show (bfB (nxC a) (aQ a * 5 ^ aR a + aW a) T).length = T from hT] at z
    exact z
  have hgT : ∀ i d j, i < T → d < 4 → gI a T i d = some j → j < T := fun i d j hi hd e => by
    have z := gI_in ha hT (show T ≤ (cL a T).length by omega) hi hd e
    omega
  have hT0 : 0 < T := by have := (bfB_pos (nx := nxC a) (c0 := aQ a * 5 ^ aR a + aW a) T).1; rw [show (bfB (nxC a) (aQ a * 5 ^ aR a + aW a) T).length = T from hT] at this; exact this
  obtain ⟨R, hR, hr1, hr2, hr3⟩ := hD
  have hv0 := hR 0 (by omega)
  rcases hc : R 0 with _ | n
  · rw [hc] at hv0
    refine x_iconst 1 0 (ab_dd tk_fo_firstDeed 0 rfl) rfl (by decide) (x_topn 0 rfl ?_)
    refine x_istore_n 2 [some (.ref F), some (.ref r), some (.int (nI 0)), none] 2 (ab_dd tk_fo_firstDeed 1 rfl) rfl rfl (by decide) rfl ?_
    refine x_iload_n 3 2 (ab_dd tk_fo_firstDeed 2 rfl) rfl rfl rfl ?_
    refine x_iconst 4 4 (ab_dd tk_fo_firstDeed 3 rfl) rfl (by decide) (x_topn 4 rfl ?_)
    refine x_icmp_ge_f 7 (ab_dd tk_fo_firstDeed 4 rfl) rfl 65 (by decide) (fun z => absurd ((nI_leI (a := 4) (b := 0) (by omega) (by omega)).mp z) (show ¬ (4 ≤ 0) by omega)) ?_
    refine x_aload_n 8 0 (ab_dd tk_fo_firstDeed 5 rfl) rfl rfl rfl ?_
    refine t_getP 11 (F + 1) (ab_dd tk_fo_firstDeed 6 rfl) rfl F_fo_24 (by have := hF.1; omega) (Nat.lt_of_le_of_lt (Nat.le_add_right F 5) hF.2.1) hF.2.2.1 rfl hF.2.2.2.2.2.2.2.2.1 ?_
    refine x_iconst 12 0 (ab_dd tk_fo_firstDeed 7 rfl) rfl (by decide) (x_topn 0 rfl ?_)
    refine t_iald 13 0 (ab_dd tk_fo_firstDeed 8 rfl) rfl (by have := hF.1; omega) (Nat.lt_of_le_of_lt (Nat.add_le_add_left (by decide) F) hF.2.1) hF.2.2.2.1 rfl (by omega) (by omega) (x_topx (-1) hv0 ?_)
    refine x_if_le_t 65 (ab_dd tk_fo_firstDeed 9 rfl) (by decide) (by decide) ?_
    refine x_iconst 66 (-1) (ab_dd tk_fo_firstDeed 41 rfl) rfl (by decide) ?_
    exact x_iret (ab_dd tk_fo_firstDeed 42 rfl) ⟨⟨-1, rfl, Or.inr ⟨fun n z => hr1 hc (n + 1) z.2.1, rfl⟩⟩, rfl⟩
  · rw [hc] at hv0
    obtain ⟨c1, c2, c3, c4⟩ := hr3 n hc
    rcases Nat.eq_zero_or_pos n with hn0 | hn0
    · refine x_iconst 1 0 (ab_dd tk_fo_firstDeed 0 rfl) rfl (by decide) (x_topn 0 rfl ?_)
      refine x_istore_n 2 [some (.ref F), some (.ref r), some (.int (nI 0)), none] 2 (ab_dd tk_fo_firstDeed 1 rfl) rfl rfl (by decide) rfl ?_
      refine x_iload_n 3 2 (ab_dd tk_fo_firstDeed 2 rfl) rfl rfl rfl ?_
      refine x_iconst 4 4 (ab_dd tk_fo_firstDeed 3 rfl) rfl (by decide) (x_topn 4 rfl ?_)
      refine x_icmp_ge_f 7 (ab_dd tk_fo_firstDeed 4 rfl) rfl 65 (by decide) (fun z => absurd ((nI_leI (a := 4) (b := 0) (by omega) (by omega)).mp z) (show ¬ (4 ≤ 0) by omega)) ?_
      refine x_aload_n 8 0 (ab_dd tk_fo_firstDeed 5 rfl) rfl rfl rfl ?_
      refine t_getP 11 (F + 1) (ab_dd tk_fo_firstDeed 6 rfl) rfl F_fo_24 (by have := hF.1; omega) (Nat.lt_of_le_of_lt (Nat.le_add_right F 5) hF.2.1) hF.2.2.1 rfl hF.2.2.2.2.2.2.2.2.1 ?_
      refine x_iconst 12 0 (ab_dd tk_fo_firstDeed 7 rfl) rfl (by decide) (x_topn 0 rfl ?_)
      refine t_iald 13 0 (ab_dd tk_fo_firstDeed 8 rfl) rfl (by have := hF.1; omega) (Nat.lt_of_le_of_lt (Nat.add_le_add_left (by decide) F) hF.2.1) hF.2.2.2.1 rfl (by omega) (by omega) (x_topn n hv0 ?_)
      refine x_if_le_t 65 (ab_dd tk_fo_firstDeed 9 rfl) (by decide) ((nI_leI (a := n) (b := 0) (by omega) (by omega)).mpr (show n ≤ 0 by omega)) ?_
      refine x_iconst 66 (-1) (ab_dd tk_fo_firstDeed 41 rfl) rfl (by decide) ?_
      exact x_iret (ab_dd tk_fo_firstDeed 42 rfl) ⟨⟨-1, rfl, Or.inr ⟨fun n z => z.2.2 (by rw [hn0] at c2; exact fw_mono (Nat.zero_le _) c2), rfl⟩⟩, rfl⟩
    · have hex : ∃ d j, d < 4 ∧ gI a T 0 d = some j ∧ R (2 * j + 1) = some (n - 1) := by
        obtain ⟨n', rfl⟩ : ∃ n', n = n' + 1 := ⟨n - 1, by omega⟩
        rcases c2 with w0 | ⟨d, j, hd, ge, hf⟩
        · exact absurd (fw_W n' true 0 w0) (c3 n' (by omega))
        · exact ⟨d, j, hd, ge, (c4 d j (by omega) hd ge).mpr hf⟩
      have loop : ∀ (m d : Nat), d + m = 4 → ∀ (y3 : Option Value), (∀ d' j', d' < d → gI a T 0 d' = some j' → R (2 * j' + 1) ≠ some (n - 1)) → ab_Ex G 1 M_fo_firstDeed 2 [some (.ref F), some (.ref r), some (.int (nI d)), y3] [] (sw S) (fun v w' => (∃ v0, v = some (.int v0) ∧ bsR (gI a T) (gV a T p h) 0 v0) ∧ w' = sw S) := by
        intro m
        induction m with
        | zero =>
          intro d hd y3 hno
          obtain ⟨d', j', e1, e2, e3⟩ := hex
          exact absurd e3 (hno d' j' (by omega) e2)
        | succ m ih =>
          intro d hd y3 hno
          refine x_forget 3 ?_
          have hgv : sI S (r + 4) (0 * 4 + d) = encN (gI a T 0 d) := roN_o ha hT hI hT0 (by omega)
          rcases hgo : gI a T 0 d with _ | u
          · refine x_iload_n 3 2 (ab_dd tk_fo_firstDeed 2 rfl) rfl rfl rfl ?_
            refine x_iconst 4 4 (ab_dd tk_fo_firstDeed 3 rfl) rfl (by decide) (x_topn 4 rfl ?_)
            refine x_icmp_ge_f 7 (ab_dd tk_fo_firstDeed 4 rfl) rfl 65 (by decide) (fun z => absurd ((nI_leI (a := 4) (b := d) (by omega) (by omega)).mp z) (show ¬ (4 ≤ d) by omega)) ?_
            refine x_aload_n 8 0 (ab_dd tk_fo_firstDeed 5 rfl) rfl rfl rfl ?_
            refine t_getP 11 (F + 1) (ab_dd tk_fo_firstDeed 6 rfl) rfl F_fo_24 (by have := hF.1; omega) (Nat.lt_of_le_of_lt (Nat.le_add_right F 5) hF.2.1) hF.2.2.1 rfl hF.2.2.2.2.2.2.2.2.1 ?_
            refine x_iconst 12 0 (ab_dd tk_fo_firstDeed 7 rfl) rfl (by decide) (x_topn 0 rfl ?_)
            refine t_iald 13 0 (ab_dd tk_fo_firstDeed 8 rfl) rfl (by have := hF.1; omega) (Nat.lt_of_le_of_lt (Nat.add_le_add_left (by decide) F) hF.2.1) hF.2.2.2.1 rfl (by omega) (by omega) (x_topn n hv0 ?_)
            refine x_if_le_f 16 (ab_dd tk_fo_firstDeed 9 rfl) rfl 65 (by decide) (fun z => absurd ((nI_leI (a := n) (b := 0) (by omega) (by omega)).mp z) (show ¬ (n ≤ 0) by omega)) ?_
            refine x_aload_n 17 1 (ab_dd tk_fo_firstDeed 10 rfl) rfl rfl rfl ?_
            refine x_iconst 18 0 (ab_dd tk_fo_firstDeed 11 rfl) rfl (by decide) (x_topn 0 rfl ?_)
            refine x_iload_n 19 2 (ab_dd tk_fo_firstDeed 12 rfl) rfl rfl rfl ?_
            refine t_callV 22 M_ro_nextOf 0 2 [_, _] (ab_dd tk_fo_firstDeed 13 rfl) rfl (by first | decide | omega) K_ro_nextOf V_ro_nextOf.1 V_ro_nextOf.2 L_fo_62 rfl (Nat.le_of_ble_eq_true rfl) (by have := hO.1; omega) (Nat.lt_of_le_of_lt (Nat.le_add_right r 7) hO.2.1) hO.2.2.1 rfl (c_ro_nextOf hO 0 d (by omega) (by omega)) (fun v1 w1 h1 => ?_)
            obtain ⟨rfl, rfl⟩ := h1
            rw [hgv, hgo]
            show ab_Ex _ _ _ _ _ (.int (-1) :: _) _ _
            refine x_istore_n 23 [some (.ref F), some (.ref r), some (.int (nI d)), some (.int ((-1)))] 3 (ab_dd tk_fo_firstDeed 14 rfl) rfl rfl (by decide) rfl ?_
            refine x_iload_n 24 3 (ab_dd tk_fo_firstDeed 15 rfl) rfl rfl rfl ?_
            refine x_if_lt_t 59 (ab_dd tk_fo_firstDeed 16 rfl) (by decide) (by decide) ?_
            refine xn_iinc 62 2 (fun y => [some (.ref F), some (.ref r), some (.int y), some (.int ((-1)))]) (d + 1) (ab_dd tk_fo_firstDeed 39 rfl) rfl (by decide) rfl (fun _ => rfl) (iinc_p 1) ?_
            refine x_goto 2 (ab_dd tk_fo_firstDeed 40 rfl) (by decide) ?_
            exact ih (d + 1) (by omega) _ (fun d' j' h1 h2 => by
              by_cases z : d' = d
              · rw [z, hgo] at h2; cases h2
              · exact hno d' j' (by omega) h2)
          · have huT := hgT 0 d u hT0 (by omega) hgo
            have hv2 := hR (2 * u + 1) (by omega)
            rcases hcu : R (2 * u + 1) with _ | n2
            · rw [hcu] at hv2
              refine x_iload_n 3 2 (ab_dd tk_fo_firstDeed 2 rfl) rfl rfl rfl ?_
              refine x_iconst 4 4 (ab_dd tk_fo_firstDeed 3 rfl) rfl (by decide) (x_topn 4 rfl ?_)
              refine x_icmp_ge_f 7 (ab_dd tk_fo_firstDeed 4 rfl) rfl 65 (by decide) (fun z => absurd ((nI_leI (a := 4) (b := d) (by omega) (by omega)).mp z) (show ¬ (4 ≤ d) by omega)) ?_
              refine x_aload_n 8 0 (ab_dd tk_fo_firstDeed 5 rfl) rfl rfl rfl ?_
              refine t_getP 11 (F + 1) (ab_dd tk_fo_firstDeed 6 rfl) rfl F_fo_24 (by have := hF.1; omega) (Nat.lt_of_le_of_lt (Nat.le_add_right F 5) hF.2.1) hF.2.2.1 rfl hF.2.2.2.2.2.2.2.2.1 ?_
              refine x_iconst 12 0 (ab_dd tk_fo_firstDeed 7 rfl) rfl (by decide) (x_topn 0 rfl ?_)
              refine t_iald 13 0 (ab_dd tk_fo_firstDeed 8 rfl) rfl (by have := hF.1; omega) (Nat.lt_of_le_of_lt (Nat.add_le_add_left (by decide) F) hF.2.1) hF.2.2.2.1 rfl (by omega) (by omega) (x_topn n hv0 ?_)
              refine x_if_le_f 16 (ab_dd tk_fo_firstDeed 9 rfl) rfl 65 (by decide) (fun z => absurd ((nI_leI (a := n) (b := 0) (by omega) (by omega)).mp z) (show ¬ (n ≤ 0) by omega)) ?_
              refine x_aload_n 17 1 (ab_dd tk_fo_firstDeed 10 rfl) rfl rfl rfl ?_
              refine x_iconst 18 0 (ab_dd tk_fo_firstDeed 11 rfl) rfl (by decide) (x_topn 0 rfl ?_)
              refine x_iload_n 19 2 (ab_dd tk_fo_firstDeed 12 rfl) rfl rfl rfl ?_
              refine t_callV 22 M_ro_nextOf 0 2 [_, _] (ab_dd tk_fo_firstDeed 13 rfl) rfl (by first | decide | omega) K_ro_nextOf V_ro_nextOf.1 V_ro_nextOf.2 L_fo_62 rfl (Nat.le_of_ble_eq_true rfl) (by have := hO.1; omega) (Nat.lt_of_le_of_lt (Nat.le_add_right r 7) hO.2.1) hO.2.2.1 rfl (c_ro_nextOf hO 0 d (by omega) (by omega)) (fun v1 w1 h1 => ?_)
              obtain ⟨rfl, rfl⟩ := h1
              rw [hgv, hgo]
              show ab_Ex _ _ _ _ _ (.int (nI u) :: _) _ _
              refine x_istore_n 23 [some (.ref F), some (.ref r), some (.int (nI d)), some (.int (nI u))] 3 (ab_dd tk_fo_firstDeed 14 rfl) rfl rfl (by decide) rfl ?_
              refine x_iload_n 24 3 (ab_dd tk_fo_firstDeed 15 rfl) rfl rfl rfl ?_
              refine x_if_lt_f 27 (ab_dd tk_fo_firstDeed 16 rfl) rfl 59 (by decide) (fun z => absurd ((nI_ltI (a := u) (b := 0) (by omega) (by omega)).mp z) (show ¬ (u < 0) by omega)) ?_
              refine x_iload_n 28 3 (ab_dd tk_fo_firstDeed 17 rfl) rfl rfl rfl ?_
              refine x_aload_n 29 0 (ab_dd tk_fo_firstDeed 18 rfl) rfl rfl rfl ?_
              refine t_getP 32 (F + 3) (ab_dd tk_fo_firstDeed 19 rfl) rfl F_fo_31 (by have := hF.1; omega) (Nat.lt_of_le_of_lt (Nat.le_add_right F 5) hF.2.1) hF.2.2.1 rfl hF.2.2.2.2.2.2.2.2.2.2.1 ?_
              refine t_alen 33 0 (ab_dd tk_fo_firstDeed 20 rfl) rfl (by have := hF.1; omega) (Nat.lt_of_le_of_lt (Nat.add_le_add_left (by decide) F) hF.2.1) rfl hF.2.2.2.2.2.1 ?_
              refine x_icmp_ge_f 36 (ab_dd tk_fo_firstDeed 21 rfl) rfl 59 (by decide) (fun z => absurd ((nI_leI (a := N) (b := u) (by omega) (by omega)).mp z) (show ¬ (N ≤ u) by omega)) ?_
              refine x_aload_n 37 0 (ab_dd tk_fo_firstDeed 22 rfl) rfl rfl rfl ?_
              refine t_getP 40 (F + 1) (ab_dd tk_fo_firstDeed 23 rfl) rfl F_fo_24 (by have := hF.1; omega) (Nat.lt_of_le_of_lt (Nat.le_add_right F 5) hF.2.1) hF.2.2.1 rfl hF.2.2.2.2.2.2.2.2.1 ?_
              refine x_iconst 41 2 (ab_dd tk_fo_firstDeed 24 rfl) rfl (by decide) (x_topn 2 rfl ?_)
              refine x_iload_n 42 3 (ab_dd tk_fo_firstDeed 25 rfl) rfl rfl rfl ?_
              refine x_imul 43 (ab_dd tk_fo_firstDeed 26 rfl) rfl (x_topn (2 * u) (pk_mul _ _) ?_)
              refine x_iconst 44 1 (ab_dd tk_fo_firstDeed 27 rfl) rfl (by decide) (x_topn 1 rfl ?_)
              refine x_iadd 45 (ab_dd tk_fo_firstDeed 28 rfl) rfl (x_topn ((2 * u) + 1) (nI_add _ _) ?_)
              refine t_iald 46 ((2 * u) + 1) (ab_dd tk_fo_firstDeed 29 rfl) rfl (by have := hF.1; omega) (Nat.lt_of_le_of_lt (Nat.add_le_add_left (by decide) F) hF.2.1) hF.2.2.2.1 rfl (by omega) (by omega) (x_topx (-1) hv2 ?_)
              refine x_aload_n 47 0 (ab_dd tk_fo_firstDeed 30 rfl) rfl rfl rfl ?_
              refine t_getP 50 (F + 1) (ab_dd tk_fo_firstDeed 31 rfl) rfl F_fo_24 (by have := hF.1; omega) (Nat.lt_of_le_of_lt (Nat.le_add_right F 5) hF.2.1) hF.2.2.1 rfl hF.2.2.2.2.2.2.2.2.1 ?_
              refine x_iconst 51 0 (ab_dd tk_fo_firstDeed 32 rfl) rfl (by decide) (x_topn 0 rfl ?_)
              refine t_iald 52 0 (ab_dd tk_fo_firstDeed 33 rfl) rfl (by have := hF.1; omega) (Nat.lt_of_le_of_lt (Nat.add_le_add_left (by decide) F) hF.2.1) hF.2.2.2.1 rfl (by omega) (by omega) (x_topn n hv0 ?_)
              refine x_iconst 53 1 (ab_dd tk_fo_firstDeed 34 rfl) rfl (by decide) (x_topn 1 rfl ?_)
              refine x_isub 54 (ab_dd tk_fo_firstDeed 35 rfl) rfl (x_topn (n - 1) (pk_sub (by omega)) ?_)
              refine x_icmp_ne_t 59 (ab_dd tk_fo_firstDeed 36 rfl) (by decide) (fun z => nI_nm1 (t := n - 1) (by omega) z.symm) ?_
              refine xn_iinc 62 2 (fun y => [some (.ref F), some (.ref r), some (.int y), some (.int (nI u))]) (d + 1) (ab_dd tk_fo_firstDeed 39 rfl) rfl (by decide) rfl (fun _ => rfl) (iinc_p 1) ?_
              refine x_goto 2 (ab_dd tk_fo_firstDeed 40 rfl) (by decide) ?_
              exact ih (d + 1) (by omega) _ (fun d' j' h1 h2 => by
                by_cases z : d' = d
                · rw [z, hgo] at h2; rw [← Option.some.inj h2, hcu]; intro y; cases y
                · exact hno d' j' (by omega) h2)
            · rw [hcu] at hv2
              have hn2 := hr2 _ _ (show 2 * u + 1 < 2 * T by omega) hcu
              refine x_iload_n 3 2 (ab_dd tk_fo_firstDeed 2 rfl) rfl rfl rfl ?_
              refine x_iconst 4 4 (ab_dd tk_fo_firstDeed 3 rfl) rfl (by decide) (x_topn 4 rfl ?_)
              refine x_icmp_ge_f 7 (ab_dd tk_fo_firstDeed 4 rfl) rfl 65 (by decide) (fun z => absurd ((nI_leI (a := 4) (b := d) (by omega) (by omega)).mp z) (show ¬ (4 ≤ d) by omega)) ?_
              refine x_aload_n 8 0 (ab_dd tk_fo_firstDeed 5 rfl) rfl rfl rfl ?_
              refine t_getP 11 (F + 1) (ab_dd tk_fo_firstDeed 6 rfl) rfl F_fo_24 (by have := hF.1; omega) (Nat.lt_of_le_of_lt (Nat.le_add_right F 5) hF.2.1) hF.2.2.1 rfl hF.2.2.2.2.2.2.2.2.1 ?_
              refine x_iconst 12 0 (ab_dd tk_fo_firstDeed 7 rfl) rfl (by decide) (x_topn 0 rfl ?_)
              refine t_iald 13 0 (ab_dd tk_fo_firstDeed 8 rfl) rfl (by have := hF.1; omega) (Nat.lt_of_le_of_lt (Nat.add_le_add_left (by decide) F) hF.2.1) hF.2.2.2.1 rfl (by omega) (by omega) (x_topn n hv0 ?_)
              refine x_if_le_f 16 (ab_dd tk_fo_firstDeed 9 rfl) rfl 65 (by decide) (fun z => absurd ((nI_leI (a := n) (b := 0) (by omega) (by omega)).mp z) (show ¬ (n ≤ 0) by omega)) ?_
              refine x_aload_n 17 1 (ab_dd tk_fo_firstDeed 10 rfl) rfl rfl rfl ?_
              refine x_iconst 18 0 (ab_dd tk_fo_firstDeed 11 rfl) rfl (by decide) (x_topn 0 rfl ?_)
              refine x_iload_n 19 2 (ab_dd tk_fo_firstDeed 12 rfl) rfl rfl rfl ?_
              refine t_callV 22 M_ro_nextOf 0 2 [_, _] (ab_dd tk_fo_firstDeed 13 rfl) rfl (by first | decide | omega) K_ro_nextOf V_ro_nextOf.1 V_ro_nextOf.2 L_fo_62 rfl (Nat.le_of_ble_eq_true rfl) (by have := hO.1; omega) (Nat.lt_of_le_of_lt (Nat.le_add_right r 7) hO.2.1) hO.2.2.1 rfl (c_ro_nextOf hO 0 d (by omega) (by omega)) (fun v1 w1 h1 => ?_)
              obtain ⟨rfl, rfl⟩ := h1
              rw [hgv, hgo]
              show ab_Ex _ _ _ _ _ (.int (nI u) :: _) _ _
              refine x_istore_n 23 [some (.ref F), some (.ref r), some (.int (nI d)), some (.int (nI u))] 3 (ab_dd tk_fo_firstDeed 14 rfl) rfl rfl (by decide) rfl ?_
              refine x_iload_n 24 3 (ab_dd tk_fo_firstDeed 15 rfl) rfl rfl rfl ?_
              refine x_if_lt_f 27 (ab_dd tk_fo_firstDeed 16 rfl) rfl 59 (by decide) (fun z => absurd ((nI_ltI (a := u) (b := 0) (by omega) (by omega)).mp z) (show ¬ (u < 0) by omega)) ?_
              refine x_iload_n 28 3 (ab_dd tk_fo_firstDeed 17 rfl) rfl rfl rfl ?_
              refine x_aload_n 29 0 (ab_dd tk_fo_firstDeed 18 rfl) rfl rfl rfl ?_
              refine t_getP 32 (F + 3) (ab_dd tk_fo_firstDeed 19 rfl) rfl F_fo_31 (by have := hF.1; omega) (Nat.lt_of_le_of_lt (Nat.le_add_right F 5) hF.2.1) hF.2.2.1 rfl hF.2.2.2.2.2.2.2.2.2.2.1 ?_
              refine t_alen 33 0 (ab_dd tk_fo_firstDeed 20 rfl) rfl (by have := hF.1; omega) (Nat.lt_of_le_of_lt (Nat.add_le_add_left (by decide) F) hF.2.1) rfl hF.2.2.2.2.2.1 ?_
              refine x_icmp_ge_f 36 (ab_dd tk_fo_firstDeed 21 rfl) rfl 59 (by decide) (fun z => absurd ((nI_leI (a := N) (b := u) (by omega) (by omega)).mp z) (show ¬ (N ≤ u) by omega)) ?_
              refine x_aload_n 37 0 (ab_dd tk_fo_firstDeed 22 rfl) rfl rfl rfl ?_
              refine t_getP 40 (F + 1) (ab_dd tk_fo_firstDeed 23 rfl) rfl F_fo_24 (by have := hF.1; omega) (Nat.lt_of_le_of_lt (Nat.le_add_right F 5) hF.2.1) hF.2.2.1 rfl hF.2.2.2.2.2.2.2.2.1 ?_
              refine x_iconst 41 2 (ab_dd tk_fo_firstDeed 24 rfl) rfl (by decide) (x_topn 2 rfl ?_)
              refine x_iload_n 42 3 (ab_dd tk_fo_firstDeed 25 rfl) rfl rfl rfl ?_
              refine x_imul 43 (ab_dd tk_fo_firstDeed 26 rfl) rfl (x_topn (2 * u) (pk_mul _ _) ?_)
              refine x_iconst 44 1 (ab_dd tk_fo_firstDeed 27 rfl) rfl (by decide) (x_topn 1 rfl ?_)
              refine x_iadd 45 (ab_dd tk_fo_firstDeed 28 rfl) rfl (x_topn ((2 * u) + 1) (nI_add _ _) ?_)
              refine t_iald 46 ((2 * u) + 1) (ab_dd tk_fo_firstDeed 29 rfl) rfl (by have := hF.1; omega) (Nat.lt_of_le_of_lt (Nat.add_le_add_left (by decide) F) hF.2.1) hF.2.2.2.1 rfl (by omega) (by omega) (x_topn n2 hv2 ?_)
              refine x_aload_n 47 0 (ab_dd tk_fo_firstDeed 30 rfl) rfl rfl rfl ?_
              refine t_getP 50 (F + 1) (ab_dd tk_fo_firstDeed 31 rfl) rfl F_fo_24 (by have := hF.1; omega) (Nat.lt_of_le_of_lt (Nat.le_add_right F 5) hF.2.1) hF.2.2.1 rfl hF.2.2.2.2.2.2.2.2.1 ?_
              refine x_iconst 51 0 (ab_dd tk_fo_firstDeed 32 rfl) rfl (by decide) (x_topn 0 rfl ?_)
              refine t_iald 52 0 (ab_dd tk_fo_firstDeed 33 rfl) rfl (by have := hF.1; omega) (Nat.lt_of_le_of_lt (Nat.add_le_add_left (by decide) F) hF.2.1) hF.2.2.2.1 rfl (by omega) (by omega) (x_topn n hv0 ?_)
              refine x_iconst 53 1 (ab_dd tk_fo_firstDeed 34 rfl) rfl (by decide) (x_topn 1 rfl ?_)
              refine x_isub 54 (ab_dd tk_fo_firstDeed 35 rfl) rfl (x_topn (n - 1) (pk_sub (by omega)) ?_)
              refine xn_icmp_ne 57 59 (ab_dd tk_fo_firstDeed 36 rfl) rfl (by decide) (by omega) (by omega) (fun h54 => ?_) (fun h54 => ?_)
              · refine xn_iinc 62 2 (fun y => [some (.ref F), some (.ref r), some (.int y), some (.int (nI u))]) (d + 1) (ab_dd tk_fo_firstDeed 39 rfl) rfl (by decide) rfl (fun _ => rfl) (iinc_p 1) ?_
                refine x_goto 2 (ab_dd tk_fo_firstDeed 40 rfl) (by decide) ?_
                exact ih (d + 1) (by omega) _ (fun d' j' h1 h2 => by
                  by_cases z : d' = d
                  · rw [z, hgo] at h2; rw [← Option.some.inj h2, hcu]; intro y; exact h54 (Option.some.inj y)
                  · exact hno d' j' (by omega) h2)
              · refine x_iload_n 58 2 (ab_dd tk_fo_firstDeed 37 rfl) rfl rfl rfl ?_
                exact x_iret (ab_dd tk_fo_firstDeed 38 rfl) ⟨⟨_, rfl, Or.inl ⟨n - 1, d, u, by unfold gFAR; omega, by rw [show n - 1 + 1 = n by omega]; exact c2, c3 (n - 1) (by omega), by omega, hgo, (c4 d u hn0 (by omega) hgo).mp (by rw [hcu, h54]), fun d' j' h1 h2 h3 => hno d' j' h1 h2 ((c4 d' j' hn0 (by omega) h2).mpr h3), rfl⟩⟩, rfl⟩
      refine x_iconst 1 0 (ab_dd tk_fo_firstDeed 0 rfl) rfl (by decide) (x_topn 0 rfl ?_)
      refine x_istore_n 2 [some (.ref F), some (.ref r), some (.int (nI 0)), none] 2 (ab_dd tk_fo_firstDeed 1 rfl) rfl rfl (by decide) rfl ?_
      exact loop 4 0 (by omega) _ (fun d' j' h1 => absurd h1 (Nat.not_lt_zero d'))
