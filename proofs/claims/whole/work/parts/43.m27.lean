/-! ===== soonest, way, most, stands of the reference ===== -/
def tb_m_farBy : List (Nat × Instr × Nat) := [(0, .aload_n 0, 1), (1, .getfield 50, 3), (4, .iconst 4, 1), (5, .iload_n 1, 1), (6, .imul, 1), (7, .iload_n 2, 1), (8, .iadd, 1), (9, .iaload, 1), (10, .istore_n 3, 1), (11, .iload_n 3, 1), (12, .iconst (-1), 1), (13, .if_icmp .eq 15, 3), (16, .aload_n 0, 1), (17, .getfield 53, 3), (20, .iload_n 3, 1), (21, .iaload, 1), (22, .ldc_w 374, 3), (25, .if_icmp .ne 9, 3), (28, .ldc_w 374, 3), (31, .goto 11, 3), (34, .aload_n 0, 1), (35, .getfield 53, 3), (38, .iload_n 3, 1), (39, .iaload, 1), (40, .iconst 1, 1), (41, .iadd, 1), (42, .ireturn, 1)]
theorem tk_m_farBy : ∀ q ∈ tb_m_farBy, decode M_m_farBy.2.1 q.1 = .ok q.2 := by decide +kernel
theorem c_m_farBy {G : ab_G} {S : ab_S} {a : Nat → Int32} (hm : mSh S) {N : Nat} (hgr : mGr S a N) {f : Nat → Nat} (hf : fAr S 132 f N) (hle : ∀ i, i < N → f i ≤ gFAR) (k d : Nat) (hk : k < N) (hd : d < 4) : ab_C G 0 M_m_farBy [.ref 120, .int (nI k), .int (nI d)] (sw S) (fun v w' => v = some (.int (nI (fB (gI a N) f k d))) ∧ w' = sw S) := by
  refine x_enter [some (.ref 120), some (.int (nI k)), some (.int (nI d)), none] (by decide) (Nat.le_of_ble_eq_true rfl) rfl (fun v w' h => by obtain ⟨rfl, rfl⟩ := h; rfl) ?_
  have hN := hgr.2.1
  cases e : gI a N k d with
  | none =>
    have et : sI S 131 (4 * k + d) = -1 := (hgr.2.2.2.2.2 k d hk hd).trans (by rw [e]; rfl)
    refine x_aload_n 1 0 (ab_dd tk_m_farBy 0 rfl) rfl rfl rfl ?_
    refine t_getP 4 131 (ab_dd tk_m_farBy 1 rfl) rfl F_m_50 (by decide) (Nat.lt_of_lt_of_le (by decide) hm.1) (hm.2.1 0 (by decide)) rfl (hm.2.2 26 (by decide)) ?_
    refine x_iconst 5 4 (ab_dd tk_m_farBy 2 rfl) rfl (by decide) (x_topn 4 rfl ?_)
    refine x_iload_n 6 1 (ab_dd tk_m_farBy 3 rfl) rfl rfl rfl ?_
    refine x_imul 7 (ab_dd tk_m_farBy 4 rfl) rfl (x_topn (4 * k) (pk_mul _ _) ?_)
    refine x_iload_n 8 2 (ab_dd tk_m_farBy 5 rfl) rfl rfl rfl ?_
    refine x_iadd 9 (ab_dd tk_m_farBy 6 rfl) rfl (x_topn ((4 * k) + d) (nI_add _ _) ?_)
    refine t_iald 10 ((4 * k) + d) (ab_dd tk_m_farBy 7 rfl) rfl (by decide) (Nat.lt_of_lt_of_le (by decide) hm.1) (hm.2.1 11 (by decide)) rfl (by omega) (by decide) (x_topx (-1) et ?_)
    refine x_istore_n 11 [some (.ref 120), some (.int (nI k)), some (.int (nI d)), some (.int ((-1)))] 3 (ab_dd tk_m_farBy 8 rfl) rfl rfl (by decide) rfl ?_
    refine x_iload_n 12 3 (ab_dd tk_m_farBy 9 rfl) rfl rfl rfl ?_
    refine x_iconst 13 (-1) (ab_dd tk_m_farBy 10 rfl) rfl (by decide) ?_
    refine x_icmp_eq_t 28 (ab_dd tk_m_farBy 11 rfl) (by decide) rfl ?_
    refine x_ldcw 31 (ab_dd tk_m_farBy 18 rfl) rfl C_m_374 (x_topn 268435456 rfl ?_)
    refine x_goto 42 (ab_dd tk_m_farBy 19 rfl) (by decide) ?_
    exact x_iret (ab_dd tk_m_farBy 26 rfl) ⟨rI (by rw [fB_none e]; rfl), rfl⟩
  | some j =>
    have et : sI S 131 (4 * k + d) = nI j := (hgr.2.2.2.2.2 k d hk hd).trans (by rw [e]; rfl)
    have hj := gI_lt hgr.1 hk hd e
    have hfj := hf j hj
    have hlj := hle j hj
    have hF : gFAR = 268435456 := rfl
    rw [hF] at hlj
    refine x_aload_n 1 0 (ab_dd tk_m_farBy 0 rfl) rfl rfl rfl ?_
    refine t_getP 4 131 (ab_dd tk_m_farBy 1 rfl) rfl F_m_50 (by decide) (Nat.lt_of_lt_of_le (by decide) hm.1) (hm.2.1 0 (by decide)) rfl (hm.2.2 26 (by decide)) ?_
    refine x_iconst 5 4 (ab_dd tk_m_farBy 2 rfl) rfl (by decide) (x_topn 4 rfl ?_)
    refine x_iload_n 6 1 (ab_dd tk_m_farBy 3 rfl) rfl rfl rfl ?_
    refine x_imul 7 (ab_dd tk_m_farBy 4 rfl) rfl (x_topn (4 * k) (pk_mul _ _) ?_)
    refine x_iload_n 8 2 (ab_dd tk_m_farBy 5 rfl) rfl rfl rfl ?_
    refine x_iadd 9 (ab_dd tk_m_farBy 6 rfl) rfl (x_topn ((4 * k) + d) (nI_add _ _) ?_)
    refine t_iald 10 ((4 * k) + d) (ab_dd tk_m_farBy 7 rfl) rfl (by decide) (Nat.lt_of_lt_of_le (by decide) hm.1) (hm.2.1 11 (by decide)) rfl (by omega) (by decide) (x_topn j et ?_)
    refine x_istore_n 11 [some (.ref 120), some (.int (nI k)), some (.int (nI d)), some (.int (nI j))] 3 (ab_dd tk_m_farBy 8 rfl) rfl rfl (by decide) rfl ?_
    refine x_iload_n 12 3 (ab_dd tk_m_farBy 9 rfl) rfl rfl rfl ?_
    refine x_iconst 13 (-1) (ab_dd tk_m_farBy 10 rfl) rfl (by decide) ?_
    refine x_icmp_eq_f 16 (ab_dd tk_m_farBy 11 rfl) rfl 28 (by decide) (nI_nm1 (by omega)) ?_
    refine x_aload_n 17 0 (ab_dd tk_m_farBy 12 rfl) rfl rfl rfl ?_
    refine t_getP 20 132 (ab_dd tk_m_farBy 13 rfl) rfl F_m_53 (by decide) (Nat.lt_of_lt_of_le (by decide) hm.1) (hm.2.1 0 (by decide)) rfl (hm.2.2 27 (by decide)) ?_
    refine x_iload_n 21 3 (ab_dd tk_m_farBy 14 rfl) rfl rfl rfl ?_
    refine t_iald 22 j (ab_dd tk_m_farBy 15 rfl) rfl (by decide) (Nat.lt_of_lt_of_le (by decide) hm.1) (hm.2.1 12 (by decide)) rfl (by omega) (by decide) (x_topn (f j) hfj ?_)
    refine x_ldcw 25 (ab_dd tk_m_farBy 16 rfl) rfl C_m_374 (x_topn 268435456 rfl ?_)
    refine xn_icmp_ne 28 34 (ab_dd tk_m_farBy 17 rfl) rfl (by decide) (by omega) (by omega) (fun h25 => ?_) (fun h25 => ?_)
    · refine x_aload_n 35 0 (ab_dd tk_m_farBy 20 rfl) rfl rfl rfl ?_
      refine t_getP 38 132 (ab_dd tk_m_farBy 21 rfl) rfl F_m_53 (by decide) (Nat.lt_of_lt_of_le (by decide) hm.1) (hm.2.1 0 (by decide)) rfl (hm.2.2 27 (by decide)) ?_
      refine x_iload_n 39 3 (ab_dd tk_m_farBy 22 rfl) rfl rfl rfl ?_
      refine t_iald 40 j (ab_dd tk_m_farBy 23 rfl) rfl (by decide) (Nat.lt_of_lt_of_le (by decide) hm.1) (hm.2.1 12 (by decide)) rfl (by omega) (by decide) (x_topn (f j) hfj ?_)
      refine x_iconst 41 1 (ab_dd tk_m_farBy 24 rfl) rfl (by decide) (x_topn 1 rfl ?_)
      refine x_iadd 42 (ab_dd tk_m_farBy 25 rfl) rfl (x_topn ((f j) + 1) (nI_add _ _) ?_)
      exact x_iret (ab_dd tk_m_farBy 26 rfl) ⟨rI (congrArg nI (by rw [fB_some e, hF, if_neg h25])), rfl⟩
    · refine x_ldcw 31 (ab_dd tk_m_farBy 18 rfl) rfl C_m_374 (x_topn 268435456 rfl ?_)
      refine x_goto 42 (ab_dd tk_m_farBy 19 rfl) (by decide) ?_
      exact x_iret (ab_dd tk_m_farBy 26 rfl) ⟨rI (congrArg nI (by rw [fB_some e, hF, if_pos h25])), rfl⟩
def tb_m_toldFar : List (Nat × Instr × Nat) := [(0, .iload_n 0, 1), (1, .ldc_w 374, 3), (4, .if_icmp .ne 7, 3), (7, .iconst (-1), 1), (8, .goto 4, 3), (11, .iload_n 0, 1), (12, .ireturn, 1)]
theorem tk_m_toldFar : ∀ q ∈ tb_m_toldFar, decode M_m_toldFar.2.1 q.1 = .ok q.2 := by decide +kernel
theorem c_m_toldFar {G : ab_G} {S : ab_S} (x : Nat) (hx : x < 2 ^ 31) : ab_C G 0 M_m_toldFar [.int (nI x)] (sw S) (fun v w' => v = some (.int (if x = gFAR then -1 else nI x)) ∧ w' = sw S) := by
  refine x_enter [some (.int (nI x))] (by decide) (Nat.le_of_ble_eq_true rfl) rfl (fun v w' h => by obtain ⟨rfl, rfl⟩ := h; rfl) ?_
  refine x_iload_n 1 0 (ab_dd tk_m_toldFar 0 rfl) rfl rfl rfl ?_
  refine x_ldcw 4 (ab_dd tk_m_toldFar 1 rfl) rfl C_m_374 (x_topn 268435456 rfl ?_)
  refine xn_icmp_ne 7 11 (ab_dd tk_m_toldFar 2 rfl) rfl (by decide) (by omega) (by omega) (fun h4 => ?_) (fun h4 => ?_)
  · refine x_iload_n 12 0 (ab_dd tk_m_toldFar 5 rfl) rfl rfl rfl ?_
    exact x_iret (ab_dd tk_m_toldFar 6 rfl) ⟨rI (if_neg h4).symm, rfl⟩
  · refine x_iconst 8 (-1) (ab_dd tk_m_toldFar 3 rfl) rfl (by decide) ?_
    refine x_goto 12 (ab_dd tk_m_toldFar 4 rfl) (by decide) ?_
    exact x_iret (ab_dd tk_m_toldFar 6 rfl) ⟨rI (if_pos h4).symm, rfl⟩
theorem im1 (x : Int32) : x + -1 = x - 1 := (Int32.sub_eq_add_neg x 1).symm
def tb_m_laysFar : List (Nat × Instr × Nat) := [(0, .aload_n 0, 1), (1, .invokevirtual 375, 3), (4, .iconst 0, 1), (5, .istore_n 2, 1), (6, .iload_n 2, 1), (7, .aload_n 0, 1), (8, .getfield 368, 3), (11, .if_icmp .ge 36, 3), (14, .aload_n 0, 1), (15, .getfield 53, 3), (18, .iload_n 2, 1), (19, .aload_n 0, 1), (20, .aload_n 0, 1), (21, .getfield 46, 3), (24, .iload_n 2, 1), (25, .iaload, 1), (26, .invokevirtual 288, 3), (29, .iload_n 1, 1), (30, .if_icmp .lt 7, 3), (33, .iconst 0, 1), (34, .goto 6, 3), (37, .ldc_w 374, 3), (40, .iastore, 1), (41, .iinc 2 1, 3), (44, .goto (-38), 3), (47, .iconst 1, 1), (48, .istore_n 2, 1), (49, .iload_n 2, 1), (50, .ifCond .eq 83, 3), (53, .iconst 0, 1), (54, .istore_n 2, 1), (55, .aload_n 0, 1), (56, .getfield 368, 3), (59, .iconst 1, 1), (60, .isub, 1), (61, .istore_n 3, 1), (62, .iload_n 3, 1), (63, .ifCond .lt 67, 3), (66, .iconst 0, 1), (67, .istore 4, 2), (69, .iload 4, 2), (71, .iconst 4, 1), (72, .if_icmp .ge 52, 3), (75, .aload_n 0, 1), (76, .getfield 53, 3), (79, .iload_n 3, 1), (80, .iaload, 1), (81, .ifCond .le 43, 3), (84, .aload_n 0, 1), (85, .iload_n 3, 1), (86, .iload 4, 2), (88, .invokevirtual 378, 3), (91, .aload_n 0, 1), (92, .getfield 53, 3), (95, .iload_n 3, 1), (96, .iaload, 1), (97, .if_icmp .lt 6, 3), (100, .goto 18, 3), (103, .aload_n 0, 1), (104, .getfield 53, 3), (107, .iload_n 3, 1), (108, .aload_n 0, 1), (109, .iload_n 3, 1), (110, .iload 4, 2), (112, .invokevirtual 378, 3), (115, .iastore, 1), (116, .iconst 1, 1), (117, .istore_n 2, 1), (118, .iinc 4 1, 3), (121, .goto (-52), 3), (124, .iinc 3 (-1), 3), (127, .goto (-65), 3), (130, .goto (-81), 3), (133, .aload_n 0, 1), (134, .getfield 53, 3), (137, .iconst 0, 1), (138, .iaload, 1), (139, .ireturn, 1)]
theorem tk_m_laysFar : ∀ q ∈ tb_m_laysFar, decode M_m_laysFar.2.1 q.1 = .ok q.2 := by decide +kernel
theorem c_m_laysFar {G : ab_G} {S : ab_S} {a : Nat → Int32} (hm : mSh S) (hA : mA S = a) (ha : aOk a) (h : Nat) (hh : h ≤ 4) : ab_C G 6 M_m_laysFar [.ref 120, .int (nI h)] (sw S) (fun v w' => ∃ S' N f, w' = sw S' ∧ mSh S' ∧ mA S' = a ∧ sEq [120, 125, 126, 129, 130, 131, 132] S S' ∧ fEq S S' ∧ mGr S' a N ∧ fAr S' 132 f N ∧ fReal (gI a N) (gW a N h) f N ∧ (∀ i, i < N → fStab (gI a N) f i) ∧ v = some (.int (nI (f 0)))) := by
  have deeds : ∀ (N s0 k : Nat), k < N → (∀ (S1 : ab_S) (f : Nat → Nat) (more : Int32), mSh S1 → mA S1 = a → sEq [120, 125, 126, 129, 130, 131, 132] S S1 → fEq S S1 → mGr S1 a N → fAr S1 132 f N → fReal (gI a N) (gW a N h) f N → ((more = 1 ∧ sumF f N < s0) ∨ (more = 0 ∧ sumF f N = s0 ∧ ∀ i, k ≤ i → i < N → fStab (gI a N) f i)) → ab_Ex G 6 M_m_laysFar 62 [some (.ref 120), some (.int (nI h)), some (.int more), some (.int (nI k - 1)), none] [] (sw S1) (fun v w' => ∃ S' N f, w' = sw S' ∧ mSh S' ∧ mA S' = a ∧ sEq [120, 125, 126, 129, 130, 131, 132] S S' ∧ fEq S S' ∧ mGr S' a N ∧ fAr S' 132 f N ∧ fReal (gI a N) (gW a N h) f N ∧ (∀ i, i < N → fStab (gI a N) f i) ∧ v = some (.int (nI (f 0))))) → ∀ (m d : Nat), d + m = 4 → ∀ (S1 : ab_S) (f : Nat → Nat) (more : Int32), mSh S1 → mA S1 = a → sEq [120, 125, 126, 129, 130, 131, 132] S S1 → fEq S S1 → mGr S1 a N → fAr S1 132 f N → fReal (gI a N) (gW a N h) f N → ((more = 1 ∧ sumF f N < s0) ∨ (more = 0 ∧ sumF f N = s0 ∧ (∀ i, k < i → i < N → fStab (gI a N) f i) ∧ (∀ d', d' < d → f k ≤ fB (gI a N) f k d' ∨ f k = 0))) → ab_Ex G 6 M_m_laysFar 69 [some (.ref 120), some (.int (nI h)), some (.int more), some (.int (nI k)), some (.int (nI d))] [] (sw S1) (fun v w' => ∃ S' N f, w' = sw S' ∧ mSh S' ∧ mA S' = a ∧ sEq [120, 125, 126, 129, 130, 131, 132] S S' ∧ fEq S S' ∧ mGr S' a N ∧ fAr S' 132 f N ∧ fReal (gI a N) (gW a N h) f N ∧ (∀ i, i < N → fStab (gI a N) f i) ∧ v = some (.int (nI (f 0)))) := by
    intro N s0 k hk cont m
    induction m with
    | zero =>
      intro d hd S1 f more hm1 hA1 hE1 hF1 hgr hf hr hp
      have hN := hgr.2.1
      have hF : gFAR = 268435456 := rfl
      have hfk := hf k hk
      have hfl := (hr k hk).1
      rw [hF] at hfl
      refine x_iload 71 4 (ab_dd tk_m_laysFar 40 rfl) rfl rfl ?_
      refine x_iconst 72 4 (ab_dd tk_m_laysFar 41 rfl) rfl (by decide) (x_topn 4 rfl ?_)
      refine x_icmp_ge_t 124 (ab_dd tk_m_laysFar 42 rfl) (by decide) ((nI_leI (a := 4) (b := d) (by omega) (by omega)).mpr (show 4 ≤ d by omega)) ?_
      refine x_iincN 127 3 (-1) (fun y => [some (.ref 120), some (.int (nI h)), some (.int more), some (.int y), some (.int (nI d))]) (ab_dd tk_m_laysFar 70 rfl) rfl (by decide) rfl (by decide) (fun _ => rfl) (fun v1 ev1 => ?_)
      refine x_goto 62 (ab_dd tk_m_laysFar 71 rfl) (by decide) ?_
      obtain rfl : v1 = nI k - 1 := ev1.trans (im1 _)
      refine x_forget 4 (cont S1 f more hm1 hA1 hE1 hF1 hgr hf hr ?_)
      rcases hp with hp | ⟨p1, p2, p3, p4⟩
      · exact Or.inl hp
      · refine Or.inr ⟨p1, p2, fun i hi hiN => ?_⟩
        by_cases e : i = k
        · subst e; exact fun d' hd' => p4 d' (by omega)
        · exact p3 i (by omega) hiN
    | succ m ih =>
      intro d hd S1 f more hm1 hA1 hE1 hF1 hgr hf hr hp
      have hN := hgr.2.1
      have hF : gFAR = 268435456 := rfl
      have hfk := hf k hk
      have hfl := (hr k hk).1
      have hbl := fB_le (fun i d j hi hd e => gI_lt hgr.1 hi hd e) hr hk (show d < 4 by omega)
      have hb1 := hbl.1
      rw [hF] at hfl hb1
      refine x_iload 71 4 (ab_dd tk_m_laysFar 40 rfl) rfl rfl ?_
      refine x_iconst 72 4 (ab_dd tk_m_laysFar 41 rfl) rfl (by decide) (x_topn 4 rfl ?_)
      refine x_icmp_ge_f 75 (ab_dd tk_m_laysFar 42 rfl) rfl 124 (by decide) (fun z => absurd ((nI_leI (a := 4) (b := d) (by omega) (by omega)).mp z) (show ¬ (4 ≤ d) by omega)) ?_
      refine x_aload_n 76 0 (ab_dd tk_m_laysFar 43 rfl) rfl rfl rfl ?_
      refine t_getP 79 132 (ab_dd tk_m_laysFar 44 rfl) rfl F_m_53 (by decide) (Nat.lt_of_lt_of_le (by decide) hm1.1) (hm1.2.1 0 (by decide)) rfl (hm1.2.2 27 (by decide)) ?_
      refine x_iload_n 80 3 (ab_dd tk_m_laysFar 45 rfl) rfl rfl rfl ?_
      refine t_iald 81 k (ab_dd tk_m_laysFar 46 rfl) rfl (by decide) (Nat.lt_of_lt_of_le (by decide) hm1.1) (hm1.2.1 12 (by decide)) rfl (by omega) (by decide) (x_topn (f k) hfk ?_)
      refine xn_if_le 84 124 (ab_dd tk_m_laysFar 47 rfl) rfl (by decide) (by omega) (fun h81 => ?_) (fun h81 => ?_)
      · refine x_iincN 127 3 (-1) (fun y => [some (.ref 120), some (.int (nI h)), some (.int more), some (.int y), some (.int (nI d))]) (ab_dd tk_m_laysFar 70 rfl) rfl (by decide) rfl (by decide) (fun _ => rfl) (fun v1 ev1 => ?_)
        refine x_goto 62 (ab_dd tk_m_laysFar 71 rfl) (by decide) ?_
        obtain rfl : v1 = nI k - 1 := ev1.trans (im1 _)
        refine x_forget 4 (cont S1 f more hm1 hA1 hE1 hF1 hgr hf hr ?_)
        rcases hp with hp | ⟨p1, p2, p3, p4⟩
        · exact Or.inl hp
        · refine Or.inr ⟨p1, p2, fun i hi hiN => ?_⟩
          by_cases e : i = k
          · subst e; exact fun d' hd' => Or.inr (by omega)
          · exact p3 i (by omega) hiN
      · refine x_aload_n 85 0 (ab_dd tk_m_laysFar 48 rfl) rfl rfl rfl ?_
        refine x_iload_n 86 3 (ab_dd tk_m_laysFar 49 rfl) rfl rfl rfl ?_
        refine x_iload 88 4 (ab_dd tk_m_laysFar 50 rfl) rfl rfl ?_
        refine t_callV 91 M_m_farBy 0 2 [_, _] (ab_dd tk_m_laysFar 51 rfl) rfl (by decide) K_m_farBy V_m_farBy.1 V_m_farBy.2 L_m_378 rfl (Nat.le_of_ble_eq_true rfl) (by decide) (Nat.lt_of_lt_of_le (by decide) hm1.1) (hm1.2.1 0 (by decide)) rfl (c_m_farBy (by exact hm1) (by exact hgr) (by exact hf) (fun i hi => (hr i hi).1) k d (by omega) (by omega)) (fun v1 w1 h1 => ?_)
        obtain ⟨rfl, rfl⟩ := h1
        refine x_aload_n 92 0 (ab_dd tk_m_laysFar 52 rfl) rfl rfl rfl ?_
        refine t_getP 95 132 (ab_dd tk_m_laysFar 53 rfl) rfl F_m_53 (by decide) (Nat.lt_of_lt_of_le (by decide) hm1.1) (hm1.2.1 0 (by decide)) rfl (hm1.2.2 27 (by decide)) ?_
        refine x_iload_n 96 3 (ab_dd tk_m_laysFar 54 rfl) rfl rfl rfl ?_
        refine t_iald 97 k (ab_dd tk_m_laysFar 55 rfl) rfl (by decide) (Nat.lt_of_lt_of_le (by decide) hm1.1) (hm1.2.1 12 (by decide)) rfl (by omega) (by decide) (x_topn (f k) hfk ?_)
        refine xn_icmp_lt 100 103 (ab_dd tk_m_laysFar 56 rfl) rfl (by decide) (by omega) (by omega) (fun h97 => ?_) (fun h97 => ?_)
        · refine x_aload_n 104 0 (ab_dd tk_m_laysFar 58 rfl) rfl rfl rfl ?_
          refine t_getP 107 132 (ab_dd tk_m_laysFar 59 rfl) rfl F_m_53 (by decide) (Nat.lt_of_lt_of_le (by decide) hm1.1) (hm1.2.1 0 (by decide)) rfl (hm1.2.2 27 (by decide)) ?_
          refine x_iload_n 108 3 (ab_dd tk_m_laysFar 60 rfl) rfl rfl rfl ?_
          refine x_aload_n 109 0 (ab_dd tk_m_laysFar 61 rfl) rfl rfl rfl ?_
          refine x_iload_n 110 3 (ab_dd tk_m_laysFar 62 rfl) rfl rfl rfl ?_
          refine x_iload 112 4 (ab_dd tk_m_laysFar 63 rfl) rfl rfl ?_
          refine t_callV 115 M_m_farBy 0 2 [_, _] (ab_dd tk_m_laysFar 64 rfl) rfl (by decide) K_m_farBy V_m_farBy.1 V_m_farBy.2 L_m_378 rfl (Nat.le_of_ble_eq_true rfl) (by decide) (Nat.lt_of_lt_of_le (by decide) hm1.1) (hm1.2.1 0 (by decide)) rfl (c_m_farBy (by exact hm1) (by exact hgr) (by exact hf) (fun i hi => (hr i hi).1) k d (by omega) (by omega)) (fun v1 w1 h1 => ?_)
          obtain ⟨rfl, rfl⟩ := h1
          refine t_iast 116 k (ab_dd tk_m_laysFar 65 rfl) rfl (by decide) (Nat.lt_of_lt_of_le (by decide) hm1.1) (hm1.2.1 12 (by decide)) rfl (by omega) (by decide) ?_
          refine x_iconst 117 1 (ab_dd tk_m_laysFar 66 rfl) rfl (by decide) (x_topn 1 rfl ?_)
          refine x_istore_n 118 [some (.ref 120), some (.int (nI h)), some (.int (nI 1)), some (.int (nI k)), some (.int (nI d))] 2 (ab_dd tk_m_laysFar 67 rfl) rfl rfl (by decide) rfl ?_
          refine xn_iinc 121 4 (fun y => [some (.ref 120), some (.int (nI h)), some (.int (nI 1)), some (.int (nI k)), some (.int y)]) (d + 1) (ab_dd tk_m_laysFar 68 rfl) rfl (by decide) rfl (fun _ => rfl) (iinc_p 1) ?_
          refine x_goto 69 (ab_dd tk_m_laysFar 69 rfl) (by decide) ?_
          refine ih (d + 1) (by omega) _ (up1 f k (fB (gI a N) f k d)) _ hm1 hA1 (hE1.pI (by decide)) (fEq.pI hF1 (Or.inl (by decide))) hgr hf.up (fReal_up (fun i d j hi hd e => gI_lt hgr.1 hi hd e) hr hk (by omega) h97) (Or.inl ⟨rfl, ?_⟩)
          have := sumF_up (f := f) (k := k) (x := fB (gI a N) f k d) N hk
          rcases hp with hp | ⟨p1, p2, p3, p4⟩ <;> omega
        · refine x_goto 118 (ab_dd tk_m_laysFar 57 rfl) (by decide) ?_
          refine xn_iinc 121 4 (fun y => [some (.ref 120), some (.int (nI h)), some (.int more), some (.int (nI k)), some (.int y)]) (d + 1) (ab_dd tk_m_laysFar 68 rfl) rfl (by decide) rfl (fun _ => rfl) (iinc_p 1) ?_
          refine x_goto 69 (ab_dd tk_m_laysFar 69 rfl) (by decide) ?_
          refine ih (d + 1) (by omega) S1 f more hm1 hA1 hE1 hF1 hgr hf hr ?_
          rcases hp with hp | ⟨p1, p2, p3, p4⟩
          · exact Or.inl hp
          · refine Or.inr ⟨p1, p2, p3, fun d' hd' => ?_⟩
            by_cases e : d' = d
            · rw [e]; exact Or.inl h97
            · exact p4 d' (by omega)
  have nodes : ∀ (N s0 : Nat), (∀ (S1 : ab_S) (f : Nat → Nat) (more : Int32), mSh S1 → mA S1 = a → sEq [120, 125, 126, 129, 130, 131, 132] S S1 → fEq S S1 → mGr S1 a N → fAr S1 132 f N → fReal (gI a N) (gW a N h) f N → ((more = 1 ∧ sumF f N < s0) ∨ (more = 0 ∧ sumF f N = s0 ∧ ∀ i, i < N → fStab (gI a N) f i)) → ab_Ex G 6 M_m_laysFar 49 [some (.ref 120), some (.int (nI h)), some (.int more), none, none] [] (sw S1) (fun v w' => ∃ S' N f, w' = sw S' ∧ mSh S' ∧ mA S' = a ∧ sEq [120, 125, 126, 129, 130, 131, 132] S S' ∧ fEq S S' ∧ mGr S' a N ∧ fAr S' 132 f N ∧ fReal (gI a N) (gW a N h) f N ∧ (∀ i, i < N → fStab (gI a N) f i) ∧ v = some (.int (nI (f 0))))) → ∀ k, k ≤ N → ∀ (S1 : ab_S) (f : Nat → Nat) (more : Int32), mSh S1 → mA S1 = a → sEq [120, 125, 126, 129, 130, 131, 132] S S1 → fEq S S1 → mGr S1 a N → fAr S1 132 f N → fReal (gI a N) (gW a N h) f N → ((more = 1 ∧ sumF f N < s0) ∨ (more = 0 ∧ sumF f N = s0 ∧ ∀ i, k ≤ i → i < N → fStab (gI a N) f i)) → ab_Ex G 6 M_m_laysFar 62 [some (.ref 120), some (.int (nI h)), some (.int more), some (.int (nI k - 1)), none] [] (sw S1) (fun v w' => ∃ S' N f, w' = sw S' ∧ mSh S' ∧ mA S' = a ∧ sEq [120, 125, 126, 129, 130, 131, 132] S S' ∧ fEq S S' ∧ mGr S' a N ∧ fAr S' 132 f N ∧ fReal (gI a N) (gW a N h) f N ∧ (∀ i, i < N → fStab (gI a N) f i) ∧ v = some (.int (nI (f 0)))) := by
    intro N s0 cont k
    induction k with
    | zero =>
      intro hkN S1 f more hm1 hA1 hE1 hF1 hgr hf hr hp
      refine x_iload_n 63 3 (ab_dd tk_m_laysFar 36 rfl) rfl rfl rfl ?_
      refine x_if_lt_t 130 (ab_dd tk_m_laysFar 37 rfl) (by decide) (by decide) ?_
      refine x_goto 49 (ab_dd tk_m_laysFar 72 rfl) (by decide) ?_
      refine x_forget 3 (cont S1 f more hm1 hA1 hE1 hF1 hgr hf hr (hp.imp id (fun p => ⟨p.1, p.2.1, fun i hi => p.2.2 i (Nat.zero_le _) hi⟩)))
    | succ k ih =>
      intro hkN S1 f more hm1 hA1 hE1 hF1 hgr hf hr hp
      have hN := hgr.2.1
      rw [nI_pred]
      refine x_iload_n 63 3 (ab_dd tk_m_laysFar 36 rfl) rfl rfl rfl ?_
      refine xn_if_lt 66 130 (ab_dd tk_m_laysFar 37 rfl) rfl (by decide) (by omega) ?_
      refine x_iconst 67 0 (ab_dd tk_m_laysFar 38 rfl) rfl (by decide) (x_topn 0 rfl ?_)
      refine x_istore 69 [some (.ref 120), some (.int (nI h)), some (.int more), some (.int (nI k)), some (.int (nI 0))] 4 (ab_dd tk_m_laysFar 39 rfl) rfl (by decide) rfl ?_
      exact deeds N s0 k (by omega) (fun S2 f2 more2 g1 g2 g3 g4 g5 g6 g7 g8 => ih (by omega) S2 f2 more2 g1 g2 g3 g4 g5 g6 g7 g8) 4 0 rfl S1 f more hm1 hA1 hE1 hF1 hgr hf hr (hp.imp id (fun p => ⟨p.1, p.2.1, fun i hi hiN => p.2.2 i (by omega) hiN, fun d' hd' => absurd hd' (by omega)⟩))
  have whil : ∀ (t : Nat) (N : Nat) (S1 : ab_S) (f : Nat → Nat), sumF f N ≤ t → mSh S1 → mA S1 = a → sEq [120, 125, 126, 129, 130, 131, 132] S S1 → fEq S S1 → mGr S1 a N → fAr S1 132 f N → fReal (gI a N) (gW a N h) f N → ab_Ex G 6 M_m_laysFar 53 [some (.ref 120), some (.int (nI h)), none, none, none] [] (sw S1) (fun v w' => ∃ S' N f, w' = sw S' ∧ mSh S' ∧ mA S' = a ∧ sEq [120, 125, 126, 129, 130, 131, 132] S S' ∧ fEq S S' ∧ mGr S' a N ∧ fAr S' 132 f N ∧ fReal (gI a N) (gW a N h) f N ∧ (∀ i, i < N → fStab (gI a N) f i) ∧ v = some (.int (nI (f 0)))) := by
    intro t
    induction t using Nat.strongRecOn with
    | ind t ih =>
      intro N S1 f ht hm1 hA1 hE1 hF1 hgr hf hr
      have hN := hgr.2.1
      have cont : ∀ (S2 : ab_S) (f2 : Nat → Nat) (more : Int32), mSh S2 → mA S2 = a → sEq [120, 125, 126, 129, 130, 131, 132] S S2 → fEq S S2 → mGr S2 a N → fAr S2 132 f2 N → fReal (gI a N) (gW a N h) f2 N → ((more = 1 ∧ sumF f2 N < sumF f N) ∨ (more = 0 ∧ sumF f2 N = sumF f N ∧ ∀ i, i < N → fStab (gI a N) f2 i)) → ab_Ex G 6 M_m_laysFar 49 [some (.ref 120), some (.int (nI h)), some (.int more), none, none] [] (sw S2) (fun v w' => ∃ S' N f, w' = sw S' ∧ mSh S' ∧ mA S' = a ∧ sEq [120, 125, 126, 129, 130, 131, 132] S S' ∧ fEq S S' ∧ mGr S' a N ∧ fAr S' 132 f N ∧ fReal (gI a N) (gW a N h) f N ∧ (∀ i, i < N → fStab (gI a N) f i) ∧ v = some (.int (nI (f 0)))) := by
        intro S2 f2 more g1 g2 g3 g4 g5 g6 g7 hp
        rcases hp with ⟨rfl, hp⟩ | ⟨rfl, hp, hst⟩
        · refine x_iload_n 50 2 (ab_dd tk_m_laysFar 27 rfl) rfl rfl rfl ?_
          refine x_if_eq_f 53 (ab_dd tk_m_laysFar 28 rfl) rfl 133 (by decide) (by decide) ?_
          exact x_forget 2 (ih (sumF f2 N) (by omega) N S2 f2 (Nat.le_refl _) g1 g2 g3 g4 g5 g6 g7)
        · refine x_iload_n 50 2 (ab_dd tk_m_laysFar 27 rfl) rfl rfl rfl ?_
          refine x_if_eq_t 133 (ab_dd tk_m_laysFar 28 rfl) (by decide) rfl ?_
          refine x_aload_n 134 0 (ab_dd tk_m_laysFar 73 rfl) rfl rfl rfl ?_
          refine t_getP 137 132 (ab_dd tk_m_laysFar 74 rfl) rfl F_m_53 (by decide) (Nat.lt_of_lt_of_le (by decide) g1.1) (g1.2.1 0 (by decide)) rfl (g1.2.2 27 (by decide)) ?_
          refine x_iconst 138 0 (ab_dd tk_m_laysFar 75 rfl) rfl (by decide) (x_topn 0 rfl ?_)
          refine t_iald 139 0 (ab_dd tk_m_laysFar 76 rfl) rfl (by decide) (Nat.lt_of_lt_of_le (by decide) g1.1) (g1.2.1 12 (by decide)) rfl (by decide) (by decide) (x_topn (f2 0) (g6 0 g5.2.2.1) ?_)
          exact x_iret (ab_dd tk_m_laysFar 77 rfl) ⟨S2, N, f2, rfl, g1, g2, g3, g4, g5, g6, g7, hst, rfl⟩
      refine x_iconst 54 0 (ab_dd tk_m_laysFar 29 rfl) rfl (by decide) (x_topn 0 rfl ?_)
      refine x_istore_n 55 [some (.ref 120), some (.int (nI h)), some (.int (nI 0)), none, none] 2 (ab_dd tk_m_laysFar 30 rfl) rfl rfl (by decide) rfl ?_
      refine x_aload_n 56 0 (ab_dd tk_m_laysFar 31 rfl) rfl rfl rfl ?_
      refine t_getI 59 (ab_dd tk_m_laysFar 32 rfl) rfl F_m_368 (by decide) (Nat.lt_of_lt_of_le (by decide) hm1.1) (hm1.2.1 0 (by decide)) rfl (x_topn N hgr.2.2.2.1 ?_)
      refine x_iconst 60 1 (ab_dd tk_m_laysFar 33 rfl) rfl (by decide) (x_topn 1 rfl ?_)
      refine x_isub 61 (ab_dd tk_m_laysFar 34 rfl) rfl (x_topx (nI N - 1) rfl ?_)
      refine x_istore_n 62 [some (.ref 120), some (.int (nI h)), some (.int (nI 0)), some (.int ((nI N - 1))), none] 3 (ab_dd tk_m_laysFar 35 rfl) rfl rfl (by decide) rfl ?_
      exact nodes N (sumF f N) cont N (Nat.le_refl _) S1 f _ hm1 hA1 hE1 hF1 hgr hf hr (Or.inr ⟨rfl, rfl, fun i h1 h2 => absurd h2 (by omega)⟩)
  have fill : ∀ (N : Nat) (S0 : ab_S), mSh S0 → mA S0 = a → sEq [120, 125, 126, 129, 130, 131, 132] S S0 → fEq S S0 → mGr S0 a N → ab_Ex G 6 M_m_laysFar 6 [some (.ref 120), some (.int (nI h)), some (.int (nI 0)), none, none] [] (sw S0) (fun v w' => ∃ S' N f, w' = sw S' ∧ mSh S' ∧ mA S' = a ∧ sEq [120, 125, 126, 129, 130, 131, 132] S S' ∧ fEq S S' ∧ mGr S' a N ∧ fAr S' 132 f N ∧ fReal (gI a N) (gW a N h) f N ∧ (∀ i, i < N → fStab (gI a N) f i) ∧ v = some (.int (nI (f 0)))) := by
    intro N S0 hm2 hA2 hE2 hF2 hgr
    have hN := hgr.2.1
    have loop : ∀ (m k : Nat), k + m = N → ∀ S1 : ab_S, sEq [132] S0 S1 → (∀ i, sI S1 132 i = if 0 ≤ i ∧ i < 0 + k then (fun i => nI ((fun i => if h ≤ mLe (gC a N i) (aR a) then 0 else gFAR) i)) (i - 0) else sI S0 132 i) → ab_Ex G 6 M_m_laysFar 6 [some (.ref 120), some (.int (nI h)), some (.int (nI k)), none, none] [] (sw S1) (fun v w' => ∃ S' N f, w' = sw S' ∧ mSh S' ∧ mA S' = a ∧ sEq [120, 125, 126, 129, 130, 131, 132] S S' ∧ fEq S S' ∧ mGr S' a N ∧ fAr S' 132 f N ∧ fReal (gI a N) (gW a N h) f N ∧ (∀ i, i < N → fStab (gI a N) f i) ∧ v = some (.int (nI (f 0)))) := by
      intro m
      induction m with
      | zero =>
        intro k hk S1 hE hV
        have hm1 := hm2.eq hE
        have hkN : k = N := by omega
        rw [hkN] at hV ⊢
        have hA1 : mA S1 = a := (hE.2.2.1 121 (by decide)).trans hA2
        have hgr1 := hgr.eq hE (by decide) (by decide) (by decide)
        have hl4 := mLe_le (gC a N k) (aR a)
        refine x_iload_n 7 2 (ab_dd tk_m_laysFar 4 rfl) rfl rfl rfl ?_
        refine x_aload_n 8 0 (ab_dd tk_m_laysFar 5 rfl) rfl rfl rfl ?_
        refine t_getI 11 (ab_dd tk_m_laysFar 6 rfl) rfl F_m_368 (by decide) (Nat.lt_of_lt_of_le (by decide) hm1.1) (hm1.2.1 0 (by decide)) rfl (x_topn N hgr1.2.2.2.1 ?_)
        refine x_icmp_ge_t 47 (ab_dd tk_m_laysFar 7 rfl) (by decide) ((nI_leI (a := N) (b := N) (by omega) (by omega)).mpr (show N ≤ N by omega)) ?_
        refine x_iconst 48 1 (ab_dd tk_m_laysFar 25 rfl) rfl (by decide) (x_topn 1 rfl ?_)
        refine x_istore_n 49 [some (.ref 120), some (.int (nI h)), some (.int (nI 1)), none, none] 2 (ab_dd tk_m_laysFar 26 rfl) rfl rfl (by decide) rfl ?_
        refine x_iload_n 50 2 (ab_dd tk_m_laysFar 27 rfl) rfl rfl rfl ?_
        refine x_if_eq_f 53 (ab_dd tk_m_laysFar 28 rfl) rfl 133 (by decide) (by decide) ?_
        refine x_forget 2 (whil (sumF (fun i => if h ≤ mLe (gC a N i) (aR a) then 0 else gFAR) N) N S1 (fun i => if h ≤ mLe (gC a N i) (aR a) then 0 else gFAR) (Nat.le_refl _) hm1 hA1 (hE2.tr (hE.mono (by decide))) (hF2.tr hE (by decide)) hgr1 (fun i hi => by rw [hV i, if_pos ⟨by omega, by omega⟩, Nat.sub_zero]) (fun i hi => ?_))
        show (if h ≤ mLe (gC a N i) (aR a) then 0 else gFAR) ≤ gFAR ∧ (gW a N h i → (if h ≤ mLe (gC a N i) (aR a) then 0 else gFAR) = 0) ∧ ((if h ≤ mLe (gC a N i) (aR a) then 0 else gFAR) < gFAR → pth (gI a N) (gW a N h) (if h ≤ mLe (gC a N i) (aR a) then 0 else gFAR) i)
        by_cases z : h ≤ mLe (gC a N i) (aR a)
        · rw [if_pos z]
          exact ⟨by decide, fun _ => rfl, fun _ => z⟩
        · rw [if_neg z]
          exact ⟨Nat.le_refl _, fun y => absurd y z, fun y => absurd y (by omega)⟩
      | succ m ih =>
        intro k hk S1 hE hV
        have hm1 := hm2.eq hE
        have hA1 : mA S1 = a := (hE.2.2.1 121 (by decide)).trans hA2
        have hgr1 := hgr.eq hE (by decide) (by decide) (by decide)
        have hl4 := mLe_le (gC a N k) (aR a)
        refine x_iload_n 7 2 (ab_dd tk_m_laysFar 4 rfl) rfl rfl rfl ?_
        refine x_aload_n 8 0 (ab_dd tk_m_laysFar 5 rfl) rfl rfl rfl ?_
        refine t_getI 11 (ab_dd tk_m_laysFar 6 rfl) rfl F_m_368 (by decide) (Nat.lt_of_lt_of_le (by decide) hm1.1) (hm1.2.1 0 (by decide)) rfl (x_topn N hgr1.2.2.2.1 ?_)
        refine x_icmp_ge_f 14 (ab_dd tk_m_laysFar 7 rfl) rfl 47 (by decide) (fun z => absurd ((nI_leI (a := N) (b := k) (by omega) (by omega)).mp z) (show ¬ (N ≤ k) by omega)) ?_
        refine x_aload_n 15 0 (ab_dd tk_m_laysFar 8 rfl) rfl rfl rfl ?_
        refine t_getP 18 132 (ab_dd tk_m_laysFar 9 rfl) rfl F_m_53 (by decide) (Nat.lt_of_lt_of_le (by decide) hm1.1) (hm1.2.1 0 (by decide)) rfl (hm1.2.2 27 (by decide)) ?_
        refine x_iload_n 19 2 (ab_dd tk_m_laysFar 10 rfl) rfl rfl rfl ?_
        refine x_aload_n 20 0 (ab_dd tk_m_laysFar 11 rfl) rfl rfl rfl ?_
        refine x_aload_n 21 0 (ab_dd tk_m_laysFar 12 rfl) rfl rfl rfl ?_
        refine t_getP 24 130 (ab_dd tk_m_laysFar 13 rfl) rfl F_m_46 (by decide) (Nat.lt_of_lt_of_le (by decide) hm1.1) (hm1.2.1 0 (by decide)) rfl (hm1.2.2 25 (by decide)) ?_
        refine x_iload_n 25 2 (ab_dd tk_m_laysFar 14 rfl) rfl rfl rfl ?_
        refine t_iald 26 k (ab_dd tk_m_laysFar 15 rfl) rfl (by decide) (Nat.lt_of_lt_of_le (by decide) hm1.1) (hm1.2.1 10 (by decide)) rfl (by omega) (by decide) (x_topn (gC a N k) (hgr1.2.2.2.2.1 k (by omega)) ?_)
        refine t_callV 29 M_m_leastIn 2 1 [_] (ab_dd tk_m_laysFar 16 rfl) rfl (by decide) K_m_leastIn V_m_leastIn.1 V_m_leastIn.2 L_m_288 rfl (Nat.le_of_ble_eq_true rfl) (by decide) (Nat.lt_of_lt_of_le (by decide) hm1.1) (hm1.2.1 0 (by decide)) rfl (w_leastIn (by exact hm1) (by exact hA1) ha (gC a N k) (gC_ok ha hgr.1 (by omega)).1) (fun v1 w1 h1 => ?_)
        obtain ⟨rfl, rfl⟩ := h1
        refine x_iload_n 30 1 (ab_dd tk_m_laysFar 17 rfl) rfl rfl rfl ?_
        refine xn_icmp_lt 33 37 (ab_dd tk_m_laysFar 18 rfl) rfl (by decide) (by omega) (by omega) (fun h30 => ?_) (fun h30 => ?_)
        · refine x_ldcw 40 (ab_dd tk_m_laysFar 21 rfl) rfl C_m_374 (x_topn 268435456 rfl ?_)
          refine t_iast 41 k (ab_dd tk_m_laysFar 22 rfl) rfl (by decide) (Nat.lt_of_lt_of_le (by decide) hm1.1) (hm1.2.1 12 (by decide)) rfl (by omega) (by decide) ?_
          refine xn_iinc 44 2 (fun y => [some (.ref 120), some (.int (nI h)), some (.int y), none, none]) (k + 1) (ab_dd tk_m_laysFar 23 rfl) rfl (by decide) rfl (fun _ => rfl) (iinc_p 1) ?_
          refine x_goto 6 (ab_dd tk_m_laysFar 24 rfl) (by decide) ?_
          refine ih (k + 1) (by omega) _ ?_ ?_
          · exact hE.pI (by decide)
          · intro i
            show up2 (sI S1) 132 (k) _ 132 i = _
            by_cases hi : i = k
            · rw [hi, up2_s, if_pos ⟨by omega, by omega⟩, show k - 0 = k by omega]
              exact congrArg nI (if_neg (by omega)).symm
            · rw [up2_k hi, hV i]
              by_cases h1 : 0 ≤ i ∧ i < 0 + k
              · rw [if_pos h1, if_pos ⟨h1.1, by omega⟩]
              · rw [if_neg h1, if_neg (fun z => h1 ⟨z.1, by omega⟩)]
        · refine x_iconst 34 0 (ab_dd tk_m_laysFar 19 rfl) rfl (by decide) (x_topn 0 rfl ?_)
          refine x_goto 40 (ab_dd tk_m_laysFar 20 rfl) (by decide) ?_
          refine t_iast 41 k (ab_dd tk_m_laysFar 22 rfl) rfl (by decide) (Nat.lt_of_lt_of_le (by decide) hm1.1) (hm1.2.1 12 (by decide)) rfl (by omega) (by decide) ?_
          refine xn_iinc 44 2 (fun y => [some (.ref 120), some (.int (nI h)), some (.int y), none, none]) (k + 1) (ab_dd tk_m_laysFar 23 rfl) rfl (by decide) rfl (fun _ => rfl) (iinc_p 1) ?_
          refine x_goto 6 (ab_dd tk_m_laysFar 24 rfl) (by decide) ?_
          refine ih (k + 1) (by omega) _ ?_ ?_
          · exact hE.pI (by decide)
          · intro i
            show up2 (sI S1) 132 (k) _ 132 i = _
            by_cases hi : i = k
            · rw [hi, up2_s, if_pos ⟨by omega, by omega⟩, show k - 0 = k by omega]
              exact congrArg nI (if_pos (by omega)).symm
            · rw [up2_k hi, hV i]
              by_cases h1 : 0 ≤ i ∧ i < 0 + k
              · rw [if_pos h1, if_pos ⟨h1.1, by omega⟩]
              · rw [if_neg h1, if_neg (fun z => h1 ⟨z.1, by omega⟩)]
    exact loop N 0 (by omega) S0 sEq.rf (fun j => by rw [if_neg (by omega)])
  refine x_enter [some (.ref 120), some (.int (nI h)), none, none, none] (by decide) (Nat.le_of_ble_eq_true rfl) rfl (fun v w' h => by obtain ⟨S', N, f, -, -, -, -, -, -, -, -, -, rfl⟩ := h; rfl) ?_
  refine x_aload_n 1 0 (ab_dd tk_m_laysFar 0 rfl) rfl rfl rfl ?_
  refine t_callV 4 M_m_laysStands 5 0 [] (ab_dd tk_m_laysFar 1 rfl) rfl (by decide) K_m_laysStands V_m_laysStands.1 V_m_laysStands.2 L_m_375 rfl (Nat.le_of_ble_eq_true rfl) (by decide) (Nat.lt_of_lt_of_le (by decide) hm.1) (hm.2.1 0 (by decide)) rfl (c_m_laysStands (by exact hm) (by exact hA) ha) (fun v1 w1 h1 => ?_)
  obtain ⟨rfl, U1, N, rfl, um1, uA1, uE1, uF1, hbf⟩ := h1
  have hgr := hbf.gr
  refine x_iconst 5 0 (ab_dd tk_m_laysFar 2 rfl) rfl (by decide) (x_topn 0 rfl ?_)
  refine x_istore_n 6 [some (.ref 120), some (.int (nI h)), some (.int (nI 0)), none, none] 2 (ab_dd tk_m_laysFar 3 rfl) rfl rfl (by decide) rfl ?_
  exact fill N _ um1 uA1 ((sEq.rf (l := [120, 125, 126, 129, 130, 131, 132])).tr (uE1.mono (by decide))) (fEq.t2 uF1 (by exact (fEq.rf (S := S)))) hgr
