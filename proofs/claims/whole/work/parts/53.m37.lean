/-! ===== chance and mean of the reference ===== -/
theorem sJ_pJ {S : ab_S} {b k : Nat} {x : Int64} : sJ (pJ S b k x) b k = x := up2_s
theorem sJ_pJo {S : ab_S} {b c k j : Nat} {x : Int64} (h : c ≠ b ∨ j ≠ k) : sJ (pJ S b k x) c j = sJ S c j := h.elim (fun z => up2_a z) (fun z => up2_k z)
theorem sI_pIo {S : ab_S} {b c k j : Nat} {x : Int32} (h : c ≠ b ∨ j ≠ k) : sI (pI S b k x) c j = sI S c j := h.elim (fun z => up2_a z) (fun z => up2_k z)
theorem ar1 (A q P M T : Nat) : A + q * P + q * M * T = A + q * (P + M * T) := by rw [Nat.mul_add, Nat.mul_assoc, Nat.add_assoc]
def ltN (R s l : Nat) : Nat := if l < R ∧ 0 < mWa s l then s - 5 ^ l else s
def tot (nx : Nat → Nat) (R : Nat) (F : Nat → Nat) : Nat → Nat → Nat
  | 0, s => F s
  | n + 1, s => sumF (fun l => tot nx R F n (ltN R (nx s) l)) 10
theorem sub_wi {s l : Nat} (h : 0 < mWa s l) : 5 ^ l ≤ s ∧ s - 5 ^ l = mWi s l (mWa s l - 1) := by
  have h1 := mWa_le s l
  obtain ⟨x, e⟩ : ∃ x, mWa s l = x + 1 := ⟨mWa s l - 1, by omega⟩
  unfold mWi
  rw [e, Nat.mul_add, Nat.mul_one] at h1
  rw [e, Nat.mul_add, Nat.mul_one, Nat.add_sub_cancel]
  omega
theorem sub_Ok {R s l : Nat} (hR : R ≤ 4) (hs : mOk R s) (hl : l < R) (h : 0 < mWa s l) : mOk R (s - 5 ^ l) := by
  have h5 := mWa_lt s l
  rw [(sub_wi h).2]
  obtain ⟨g1, g2, g3⟩ := mWi_ok (c := s) (r := l) (x := mWa s l - 1) hs.1 (by omega) (by omega)
  exact mOk_se hs g1 g2 (fun r hr hn => by rw [g3 r hr, if_neg (by omega)]; exact (hs.2.2.1 r hr hn).2)
theorem ltN_ok {R s l : Nat} (hR : R ≤ 4) (hs : mOk R s) : mOk R (ltN R s l) := by
  unfold ltN
  by_cases z : l < R ∧ 0 < mWa s l
  · rw [if_pos z]; exact sub_Ok hR hs z.1 z.2
  · rw [if_neg z]; exact hs
def zr (s : Nat) : Nat → Nat
  | 0 => 0
  | r + 1 => zr s r + (if mWa s r = 0 then 1 else 0)
def pr (F : Nat → Nat) (s : Nat) : Nat → Nat
  | 0 => 0
  | r + 1 => pr F s r + (if mWa s r = 0 then 0 else F (s - 5 ^ r))
theorem lt_lo {F : Nat → Nat} {R s : Nat} : ∀ r, r ≤ R → sumF (fun l => F (ltN R s l)) r = pr F s r + zr s r * F s
  | 0, _ => by show 0 = 0 + 0 * F s; omega
  | r + 1, h => by
    show sumF (fun l => F (ltN R s l)) r + F (ltN R s r) = (pr F s r + (if mWa s r = 0 then 0 else F (s - 5 ^ r))) + (zr s r + (if mWa s r = 0 then 1 else 0)) * F s
    rw [lt_lo (F := F) (s := s) r (by omega)]
    unfold ltN
    by_cases z : mWa s r = 0
    · rw [if_neg (fun y => by omega), if_pos z, if_pos z, Nat.add_mul]; omega
    · rw [if_pos ⟨by omega, by omega⟩, if_neg z, if_neg z, Nat.add_zero]; omega
theorem lt_hi {F : Nat → Nat} {R s : Nat} : ∀ k, sumF (fun l => F (ltN R s l)) (R + k) = sumF (fun l => F (ltN R s l)) R + k * F s
  | 0 => by rw [Nat.zero_mul]; rfl
  | k + 1 => by
    show sumF (fun l => F (ltN R s l)) (R + k) + F (ltN R s (R + k)) = _
    rw [lt_hi (F := F) (s := s) k]
    have e : ltN R s (R + k) = s := if_neg (fun y => by omega)
    rw [e, Nat.add_mul, Nat.one_mul]; omega
theorem lt_all {F : Nat → Nat} {R s : Nat} (hR : R ≤ 4) : sumF (fun l => F (ltN R s l)) 10 = pr F s R + (10 - R + zr s R) * F s := by
  rw [show 10 = R + (10 - R) by omega, lt_hi, lt_lo R (Nat.le_refl _), show R + (10 - R) - R = 10 - R by omega, Nat.add_mul]; omega
abbrev aNx (a : Nat → Int32) (s : Nat) : Nat := aS a (a 40) s 0
abbrev fWm (a : Nat → Int32) (h s : Nat) : Nat := if h ≤ mLe s (aR a) then 1 else 0
abbrev fSm (a : Nat → Int32) (s : Nat) : Nat := mSu s (aR a)
def tb_m_goesLots : List (Nat × Instr × Nat) := [(0, .iload_n 3, 1), (1, .ifCond .ne 46, 3), (4, .aload_n 0, 1), (5, .dup, 1), (6, .getfield 445, 3), (9, .aload_n 0, 1), (10, .iload_n 1, 1), (11, .invokevirtual 288, 3), (14, .iload_n 2, 1), (15, .if_icmp .lt 8, 3), (18, .lload 4, 2), (20, .goto 4, 3), (23, .lconst 0, 1), (24, .ladd, 1), (25, .putfield 445, 3), (28, .aload_n 0, 1), (29, .dup, 1), (30, .getfield 449, 3), (33, .lload 4, 2), (35, .aload_n 0, 1), (36, .iload_n 1, 1), (37, .invokevirtual 334, 3), (40, .i2l, 1), (41, .lmul, 1), (42, .ladd, 1), (43, .putfield 449, 3), (46, .return_, 1), (47, .aload_n 0, 1), (48, .iload_n 1, 1), (49, .iconst 0, 1), (50, .aload_n 0, 1), (51, .getfield 13, 3), (54, .bipush 40, 2), (56, .iaload, 1), (57, .invokevirtual 273, 3), (60, .istore 6, 2), (62, .bipush 10, 2), (64, .aload_n 0, 1), (65, .getfield 13, 3), (68, .iconst 1, 1), (69, .iaload, 1), (70, .isub, 1), (71, .i2l, 1), (72, .lstore 7, 2), (74, .iconst 0, 1), (75, .istore 9, 2), (77, .iload 9, 2), (79, .aload_n 0, 1), (80, .getfield 13, 3), (83, .iconst 1, 1), (84, .iaload, 1), (85, .if_icmp .ge 46, 3), (88, .iload 6, 2), (90, .iload 9, 2), (92, .invokestatic 228, 3), (95, .ifCond .ne 12, 3), (98, .lload 7, 2), (100, .lconst 1, 1), (101, .ladd, 1), (102, .lstore 7, 2), (104, .goto 21, 3), (107, .aload_n 0, 1), (108, .iload 6, 2), (110, .iload 9, 2), (112, .invokestatic 225, 3), (115, .isub, 1), (116, .iload_n 2, 1), (117, .iload_n 3, 1), (118, .iconst 1, 1), (119, .isub, 1), (120, .lload 4, 2), (122, .invokevirtual 452, 3), (125, .iinc 9 1, 3), (128, .goto (-51), 3), (131, .aload_n 0, 1), (132, .iload 6, 2), (134, .iload_n 2, 1), (135, .iload_n 3, 1), (136, .iconst 1, 1), (137, .isub, 1), (138, .lload 4, 2), (140, .lload 7, 2), (142, .lmul, 1), (143, .invokevirtual 452, 3), (146, .return_, 1)]
theorem tk_m_goesLots : ∀ q ∈ tb_m_goesLots, decode M_m_goesLots.2.1 q.1 = .ok q.2 := by decide +kernel
theorem c_m_goesLots {G : ab_G} {a : Nat → Int32} (ha : aOk a) (h : Nat) (hh : h ≤ 4) : ∀ (n s q A B : Nat) (S : ab_S), n ≤ 6 → mSh S → mA S = a → mOk (aR a) s → sJ S 120 40 = lN A → sJ S 120 41 = lN B → ab_C G (5 + n) M_m_goesLots [.ref 120, .int (nI s), .int (nI h), .int (nI n), .long (lN q)] (sw S) (fun v w' => v = none ∧ ∃ S', w' = sw S' ∧ mSh S' ∧ mA S' = a ∧ sEq [120, 125, 126] S S' ∧ fEq S S' ∧ sJ S' 120 40 = lN (A + q * (tot (aNx a) (aR a) (fWm a h) n s)) ∧ sJ S' 120 41 = lN (B + q * (tot (aNx a) (aR a) (fSm a) n s))) := by
  intro n
  have hR4 := ha.R.2
  induction n with
  | zero =>
    intro s q A B S hn hm hA hs hWs hHs
    have hl4 := mLe_le s (aR a)
    have hs4 := mSu_le s (aR a)
    have hlt := hs.1
    refine x_enter [some (.ref 120), some (.int (nI s)), some (.int (nI h)), some (.int (nI 0)), some (.long (lN q)), none, none, none, none, none] (by decide) (Nat.le_of_ble_eq_true rfl) rfl (fun v w' h => by obtain ⟨rfl, -⟩ := h; trivial) ?_
    refine x_iload_n 1 3 (ab_dd tk_m_goesLots 0 rfl) rfl rfl rfl ?_
    refine x_if_ne_f 4 (ab_dd tk_m_goesLots 1 rfl) rfl 47 (by decide) rfl ?_
    refine x_aload_n 5 0 (ab_dd tk_m_goesLots 2 rfl) rfl rfl rfl ?_
    refine x_dup 6 (ab_dd tk_m_goesLots 3 rfl) rfl rfl ?_
    refine t_getJ 9 (ab_dd tk_m_goesLots 4 rfl) rfl F_m_445 (by decide) (Nat.lt_of_lt_of_le (by decide) hm.1) (hm.2.1 0 (by decide)) rfl (x_topL (lN A) hWs ?_)
    refine x_aload_n 10 0 (ab_dd tk_m_goesLots 5 rfl) rfl rfl rfl ?_
    refine x_iload_n 11 1 (ab_dd tk_m_goesLots 6 rfl) rfl rfl rfl ?_
    refine t_callV 14 M_m_leastIn 2 1 [_] (ab_dd tk_m_goesLots 7 rfl) rfl (by decide) K_m_leastIn V_m_leastIn.1 V_m_leastIn.2 L_m_288 rfl (Nat.le_of_ble_eq_true rfl) (by decide) (Nat.lt_of_lt_of_le (by decide) hm.1) (hm.2.1 0 (by decide)) rfl (w_leastIn (by exact hm) (by exact hA) ha s hlt) (fun v1 w1 h1 => ?_)
    obtain ⟨rfl, rfl⟩ := h1
    refine x_iload_n 15 2 (ab_dd tk_m_goesLots 8 rfl) rfl rfl rfl ?_
    refine xn_icmp_lt 18 23 (ab_dd tk_m_goesLots 9 rfl) rfl (by decide) (by omega) (by omega) (fun h15 => ?_) (fun h15 => ?_)
    · refine x_lconst 24 0 (ab_dd tk_m_goesLots 12 rfl) rfl (by decide) (x_topL (lN 0) rfl ?_)
      refine x_ladd 25 (ab_dd tk_m_goesLots 13 rfl) rfl (x_topL (lN (A + 0)) (lN_add _ _) ?_)
      refine t_putJ 28 (ab_dd tk_m_goesLots 14 rfl) rfl F_m_445 (by decide) (Nat.lt_of_lt_of_le (by decide) hm.1) (hm.2.1 0 (by decide)) rfl ?_
      refine x_aload_n 29 0 (ab_dd tk_m_goesLots 15 rfl) rfl rfl rfl ?_
      refine x_dup 30 (ab_dd tk_m_goesLots 16 rfl) rfl rfl ?_
      refine t_getJ 33 (ab_dd tk_m_goesLots 17 rfl) rfl F_m_449 (by decide) (Nat.lt_of_lt_of_le (by decide) hm.1) (hm.2.1 0 (by decide)) rfl (x_topL (lN B) ((sJ_pJo (Or.inr (by decide))).trans hHs) ?_)
      refine x_lload 35 4 (ab_dd tk_m_goesLots 18 rfl) rfl rfl (x_topL (lN q) rfl ?_)
      refine x_aload_n 36 0 (ab_dd tk_m_goesLots 19 rfl) rfl rfl rfl ?_
      refine x_iload_n 37 1 (ab_dd tk_m_goesLots 20 rfl) rfl rfl rfl ?_
      refine t_callV 40 M_m_sumIn 2 1 [_] (ab_dd tk_m_goesLots 21 rfl) rfl (by decide) K_m_sumIn V_m_sumIn.1 V_m_sumIn.2 L_m_334 rfl (Nat.le_of_ble_eq_true rfl) (by decide) (Nat.lt_of_lt_of_le (by decide) hm.1) (hm.2.1 0 (by decide)) rfl (w_sumIn (by exact hm) (by exact hA) ha s hlt) (fun v1 w1 h1 => ?_)
      obtain ⟨rfl, rfl⟩ := h1
      refine x_i2l 41 (ab_dd tk_m_goesLots 22 rfl) rfl (x_topL (lN (mSu s (aR a))) (nI_l (by omega)) ?_)
      refine x_lmul 42 (ab_dd tk_m_goesLots 23 rfl) rfl (x_topL (lN (q * mSu s (aR a))) (lN_mul _ _) ?_)
      refine x_ladd 43 (ab_dd tk_m_goesLots 24 rfl) rfl (x_topL (lN (B + q * mSu s (aR a))) (lN_add _ _) ?_)
      refine t_putJ 46 (ab_dd tk_m_goesLots 25 rfl) rfl F_m_449 (by decide) (Nat.lt_of_lt_of_le (by decide) hm.1) (hm.2.1 0 (by decide)) rfl ?_
      exact x_vret (ab_dd tk_m_goesLots 26 rfl) ⟨rfl, _, rfl, hm, hA, (((sEq.rf (l := [120, 125, 126])).pJ (by decide)).pJ (by decide)), (fEq.pJ (fEq.pJ (fEq.rf (S := S)) ) ), ((sJ_pJo (Or.inr (by decide))).trans sJ_pJ).trans (congrArg lN (by show _ = A + q * (if h ≤ mLe s (aR a) then 1 else 0); rw [if_neg (by omega), Nat.mul_zero])), sJ_pJ⟩
    · refine x_lload 20 4 (ab_dd tk_m_goesLots 10 rfl) rfl rfl (x_topL (lN q) rfl ?_)
      refine x_goto 24 (ab_dd tk_m_goesLots 11 rfl) (by decide) ?_
      refine x_ladd 25 (ab_dd tk_m_goesLots 13 rfl) rfl (x_topL (lN (A + q)) (lN_add _ _) ?_)
      refine t_putJ 28 (ab_dd tk_m_goesLots 14 rfl) rfl F_m_445 (by decide) (Nat.lt_of_lt_of_le (by decide) hm.1) (hm.2.1 0 (by decide)) rfl ?_
      refine x_aload_n 29 0 (ab_dd tk_m_goesLots 15 rfl) rfl rfl rfl ?_
      refine x_dup 30 (ab_dd tk_m_goesLots 16 rfl) rfl rfl ?_
      refine t_getJ 33 (ab_dd tk_m_goesLots 17 rfl) rfl F_m_449 (by decide) (Nat.lt_of_lt_of_le (by decide) hm.1) (hm.2.1 0 (by decide)) rfl (x_topL (lN B) ((sJ_pJo (Or.inr (by decide))).trans hHs) ?_)
      refine x_lload 35 4 (ab_dd tk_m_goesLots 18 rfl) rfl rfl (x_topL (lN q) rfl ?_)
      refine x_aload_n 36 0 (ab_dd tk_m_goesLots 19 rfl) rfl rfl rfl ?_
      refine x_iload_n 37 1 (ab_dd tk_m_goesLots 20 rfl) rfl rfl rfl ?_
      refine t_callV 40 M_m_sumIn 2 1 [_] (ab_dd tk_m_goesLots 21 rfl) rfl (by decide) K_m_sumIn V_m_sumIn.1 V_m_sumIn.2 L_m_334 rfl (Nat.le_of_ble_eq_true rfl) (by decide) (Nat.lt_of_lt_of_le (by decide) hm.1) (hm.2.1 0 (by decide)) rfl (w_sumIn (by exact hm) (by exact hA) ha s hlt) (fun v1 w1 h1 => ?_)
      obtain ⟨rfl, rfl⟩ := h1
      refine x_i2l 41 (ab_dd tk_m_goesLots 22 rfl) rfl (x_topL (lN (mSu s (aR a))) (nI_l (by omega)) ?_)
      refine x_lmul 42 (ab_dd tk_m_goesLots 23 rfl) rfl (x_topL (lN (q * mSu s (aR a))) (lN_mul _ _) ?_)
      refine x_ladd 43 (ab_dd tk_m_goesLots 24 rfl) rfl (x_topL (lN (B + q * mSu s (aR a))) (lN_add _ _) ?_)
      refine t_putJ 46 (ab_dd tk_m_goesLots 25 rfl) rfl F_m_449 (by decide) (Nat.lt_of_lt_of_le (by decide) hm.1) (hm.2.1 0 (by decide)) rfl ?_
      exact x_vret (ab_dd tk_m_goesLots 26 rfl) ⟨rfl, _, rfl, hm, hA, (((sEq.rf (l := [120, 125, 126])).pJ (by decide)).pJ (by decide)), (fEq.pJ (fEq.pJ (fEq.rf (S := S)) ) ), ((sJ_pJo (Or.inr (by decide))).trans sJ_pJ).trans (congrArg lN (by show _ = A + q * (if h ≤ mLe s (aR a) then 1 else 0); rw [if_pos h15, Nat.mul_one])), sJ_pJ⟩
  | succ n ihn =>
    intro s q A B S hn hm hA hs hWs hHs
    have hto : mOk (aR a) (aNx a s) := aS_ok ha hs (Or.inr rfl)
    have htl := hto.1
    refine x_enter [some (.ref 120), some (.int (nI s)), some (.int (nI h)), some (.int (nI (n + 1))), some (.long (lN q)), none, none, none, none, none] (by decide) (Nat.le_of_ble_eq_true rfl) rfl (fun v w' h => by obtain ⟨rfl, -⟩ := h; trivial) ?_
    have loop : ∀ (m r : Nat), r + m = aR a → ∀ S1, mSh S1 → mA S1 = a → sEq [120, 125, 126] S S1 → fEq S S1 → sJ S1 120 40 = lN (A + q * (pr (tot (aNx a) (aR a) (fWm a h) n) (aNx a s) r)) → sJ S1 120 41 = lN (B + q * (pr (tot (aNx a) (aR a) (fSm a) n) (aNx a s) r)) → ab_Ex G (5 + (n + 1)) M_m_goesLots 77 [some (.ref 120), some (.int (nI s)), some (.int (nI h)), some (.int (nI (n + 1))), some (.long (lN q)), none, some (.int (nI (aNx a s))), some (.long (lN (10 - aR a + zr (aNx a s) r))), none, some (.int (nI r))] [] (sw S1) (fun v w' => v = none ∧ ∃ S', w' = sw S' ∧ mSh S' ∧ mA S' = a ∧ sEq [120, 125, 126] S S' ∧ fEq S S' ∧ sJ S' 120 40 = lN (A + q * (tot (aNx a) (aR a) (fWm a h) (n + 1) s)) ∧ sJ S' 120 41 = lN (B + q * (tot (aNx a) (aR a) (fSm a) (n + 1) s))) := by
      intro m
      induction m with
      | zero =>
        intro r hr S1 hm1 hA1 hE1 hF1 h1 h2
        obtain rfl : r = aR a := by omega
        refine x_iload 79 9 (ab_dd tk_m_goesLots 46 rfl) rfl rfl ?_
        refine x_aload_n 80 0 (ab_dd tk_m_goesLots 47 rfl) rfl rfl rfl ?_
        refine t_getP 83 121 (ab_dd tk_m_goesLots 48 rfl) rfl F_m_13 (by decide) (Nat.lt_of_lt_of_le (by decide) hm1.1) (hm1.2.1 0 (by decide)) rfl (hm1.2.2 1 (by decide)) ?_
        refine x_iconst 84 1 (ab_dd tk_m_goesLots 49 rfl) rfl (by decide) (x_topn 1 rfl ?_)
        refine t_iald 85 1 (ab_dd tk_m_goesLots 50 rfl) rfl (by decide) (Nat.lt_of_lt_of_le (by decide) hm1.1) (hm1.2.1 1 (by decide)) rfl (by decide) (by decide) (x_topn (aR a) ((congrFun hA1 1).trans ha.R.1) ?_)
        refine x_icmp_ge_t 131 (ab_dd tk_m_goesLots 51 rfl) (by decide) ((nI_leI (a := (aR a)) (b := (aR a)) (by omega) (by omega)).mpr (show (aR a) ≤ (aR a) by omega)) ?_
        refine x_aload_n 132 0 (ab_dd tk_m_goesLots 74 rfl) rfl rfl rfl ?_
        refine x_iload 134 6 (ab_dd tk_m_goesLots 75 rfl) rfl rfl ?_
        refine x_iload_n 135 2 (ab_dd tk_m_goesLots 76 rfl) rfl rfl rfl ?_
        refine x_iload_n 136 3 (ab_dd tk_m_goesLots 77 rfl) rfl rfl rfl ?_
        refine x_iconst 137 1 (ab_dd tk_m_goesLots 78 rfl) rfl (by decide) (x_topn 1 rfl ?_)
        refine x_isub 138 (ab_dd tk_m_goesLots 79 rfl) rfl (x_topn n (nI_pred n) ?_)
        refine x_lload 140 4 (ab_dd tk_m_goesLots 80 rfl) rfl rfl (x_topL (lN q) rfl ?_)
        refine x_lload 142 7 (ab_dd tk_m_goesLots 81 rfl) rfl rfl (x_topL (lN (10 - aR a + zr (aNx a s) (aR a))) rfl ?_)
        refine x_lmul 143 (ab_dd tk_m_goesLots 82 rfl) rfl (x_topL (lN (q * (10 - aR a + zr (aNx a s) (aR a)))) (lN_mul _ _) ?_)
        refine t_callV 146 M_m_goesLots (5 + n) 4 [_, _, _, _] (ab_dd tk_m_goesLots 83 rfl) rfl (by omega) K_m_goesLots V_m_goesLots.1 V_m_goesLots.2 L_m_452 rfl (Nat.le_of_ble_eq_true rfl) (by decide) (Nat.lt_of_lt_of_le (by decide) hm1.1) (hm1.2.1 0 (by decide)) rfl (ihn (aNx a s) (q * (10 - aR a + zr (aNx a s) (aR a))) _ _ _ (by omega) (by exact hm1) (by exact hA1) hto (by exact h1) (by exact h2)) (fun v1 w1 h1 => ?_)
        obtain ⟨rfl, U1, rfl, um1, uA1, uE1, uF1, u1, u2⟩ := h1
        exact x_vret (ab_dd tk_m_goesLots 84 rfl) ⟨rfl, _, rfl, um1, uA1, (hE1.tr (uE1.mono (by decide))), (fEq.t2 uF1 (by exact hF1)), u1.trans (congrArg lN (by rw [show tot (aNx a) (aR a) (fWm a h) (n + 1) s = _ from lt_all hR4]; exact ar1 _ _ _ _ _)), u2.trans (congrArg lN (by rw [show tot (aNx a) (aR a) (fSm a) (n + 1) s = _ from lt_all hR4]; exact ar1 _ _ _ _ _))⟩
      | succ m ih =>
        intro r hr S1 hm1 hA1 hE1 hF1 h1 h2
        have hw5 := mWa_lt (aNx a s) r
        have hI := ih (r + 1) (by omega)
        rw [show zr (aNx a s) (r + 1) = zr (aNx a s) r + _ from rfl, show pr (tot (aNx a) (aR a) (fWm a h) n) (aNx a s) (r + 1) = (pr (tot (aNx a) (aR a) (fWm a h) n) (aNx a s) r) + _ from rfl, show pr (tot (aNx a) (aR a) (fSm a) n) (aNx a s) (r + 1) = (pr (tot (aNx a) (aR a) (fSm a) n) (aNx a s) r) + _ from rfl] at hI
        refine x_iload 79 9 (ab_dd tk_m_goesLots 46 rfl) rfl rfl ?_
        refine x_aload_n 80 0 (ab_dd tk_m_goesLots 47 rfl) rfl rfl rfl ?_
        refine t_getP 83 121 (ab_dd tk_m_goesLots 48 rfl) rfl F_m_13 (by decide) (Nat.lt_of_lt_of_le (by decide) hm1.1) (hm1.2.1 0 (by decide)) rfl (hm1.2.2 1 (by decide)) ?_
        refine x_iconst 84 1 (ab_dd tk_m_goesLots 49 rfl) rfl (by decide) (x_topn 1 rfl ?_)
        refine t_iald 85 1 (ab_dd tk_m_goesLots 50 rfl) rfl (by decide) (Nat.lt_of_lt_of_le (by decide) hm1.1) (hm1.2.1 1 (by decide)) rfl (by decide) (by decide) (x_topn (aR a) ((congrFun hA1 1).trans ha.R.1) ?_)
        refine x_icmp_ge_f 88 (ab_dd tk_m_goesLots 51 rfl) rfl 131 (by decide) (fun z => absurd ((nI_leI (a := (aR a)) (b := r) (by omega) (by omega)).mp z) (show ¬ ((aR a) ≤ r) by omega)) ?_
        refine x_iload 90 6 (ab_dd tk_m_goesLots 52 rfl) rfl rfl ?_
        refine x_iload 92 9 (ab_dd tk_m_goesLots 53 rfl) rfl rfl ?_
        refine x_callS 95 M_m_warmthIn 1 2 [_, _] (ab_dd tk_m_goesLots 54 rfl) rfl (by omega) K_m_warmthIn T_m_warmthIn L_m_228 rfl (Nat.le_of_ble_eq_true rfl) (w_warmthIn _ (aNx a s) r htl (by omega)) (fun v1 w1 h1 => ?_)
        obtain ⟨rfl, rfl⟩ := h1
        refine xn_if_ne 98 107 (ab_dd tk_m_goesLots 55 rfl) rfl (by decide) (by omega) (fun h95 => ?_) (fun h95 => ?_)
        · have h5l := (sub_wi h95).1
          refine x_aload_n 108 0 (ab_dd tk_m_goesLots 61 rfl) rfl rfl rfl ?_
          refine x_iload 110 6 (ab_dd tk_m_goesLots 62 rfl) rfl rfl ?_
          refine x_iload 112 9 (ab_dd tk_m_goesLots 63 rfl) rfl rfl ?_
          refine x_callS 115 M_m_placeOf 0 1 [_] (ab_dd tk_m_goesLots 64 rfl) rfl (by omega) K_m_placeOf T_m_placeOf L_m_225 rfl (Nat.le_of_ble_eq_true rfl) (w_placeOf _ r (by omega)) (fun v1 w1 h1 => ?_)
          obtain ⟨rfl, rfl⟩ := h1
          refine x_isub 116 (ab_dd tk_m_goesLots 65 rfl) rfl (x_topn ((aNx a s) - (5 ^ r)) (pk_sub (by omega)) ?_)
          refine x_iload_n 117 2 (ab_dd tk_m_goesLots 66 rfl) rfl rfl rfl ?_
          refine x_iload_n 118 3 (ab_dd tk_m_goesLots 67 rfl) rfl rfl rfl ?_
          refine x_iconst 119 1 (ab_dd tk_m_goesLots 68 rfl) rfl (by decide) (x_topn 1 rfl ?_)
          refine x_isub 120 (ab_dd tk_m_goesLots 69 rfl) rfl (x_topn n (nI_pred n) ?_)
          refine x_lload 122 4 (ab_dd tk_m_goesLots 70 rfl) rfl rfl (x_topL (lN q) rfl ?_)
          refine t_callV 125 M_m_goesLots (5 + n) 4 [_, _, _, _] (ab_dd tk_m_goesLots 71 rfl) rfl (by omega) K_m_goesLots V_m_goesLots.1 V_m_goesLots.2 L_m_452 rfl (Nat.le_of_ble_eq_true rfl) (by decide) (Nat.lt_of_lt_of_le (by decide) hm1.1) (hm1.2.1 0 (by decide)) rfl (ihn ((aNx a s) - 5 ^ r) q _ _ _ (by omega) (by exact hm1) (by exact hA1) (sub_Ok hR4 hto (by omega) h95) (by exact h1) (by exact h2)) (fun v1 w1 h1 => ?_)
          obtain ⟨rfl, U1, rfl, um1, uA1, uE1, uF1, u1, u2⟩ := h1
          refine xn_iinc 128 9 (fun y => [some (.ref 120), some (.int (nI s)), some (.int (nI h)), some (.int (nI (n + 1))), some (.long (lN q)), none, some (.int (nI (aNx a s))), some (.long (lN (10 - aR a + zr (aNx a s) r))), none, some (.int y)]) (r + 1) (ab_dd tk_m_goesLots 72 rfl) rfl (by decide) rfl (fun _ => rfl) (iinc_p 1) ?_
          refine x_goto 77 (ab_dd tk_m_goesLots 73 rfl) (by decide) ?_
          rw [if_neg (by omega), if_neg (by omega), if_neg (by omega)] at hI
          exact hI _ um1 uA1 (hE1.tr (uE1.mono (by decide))) (fEq.t2 uF1 (by exact hF1)) (u1.trans (congrArg lN (by rw [Nat.mul_add, Nat.add_assoc]))) (u2.trans (congrArg lN (by rw [Nat.mul_add, Nat.add_assoc])))
        · refine x_lload 100 7 (ab_dd tk_m_goesLots 56 rfl) rfl rfl (x_topL (lN (10 - aR a + zr (aNx a s) r)) rfl ?_)
          refine x_lconst 101 1 (ab_dd tk_m_goesLots 57 rfl) rfl (by decide) (x_topL (lN 1) rfl ?_)
          refine x_ladd 102 (ab_dd tk_m_goesLots 58 rfl) rfl (x_topL (lN (10 - aR a + (zr (aNx a s) r + 1))) (lN_add _ _) ?_)
          refine x_lstore 104 [some (.ref 120), some (.int (nI s)), some (.int (nI h)), some (.int (nI (n + 1))), some (.long (lN q)), none, some (.int (nI (aNx a s))), some (.long (lN (10 - aR a + (zr (aNx a s) r + 1)))), none, some (.int (nI r))] 7 (ab_dd tk_m_goesLots 59 rfl) rfl (by decide) rfl ?_
          refine x_goto 125 (ab_dd tk_m_goesLots 60 rfl) (by decide) ?_
          refine xn_iinc 128 9 (fun y => [some (.ref 120), some (.int (nI s)), some (.int (nI h)), some (.int (nI (n + 1))), some (.long (lN q)), none, some (.int (nI (aNx a s))), some (.long (lN (10 - aR a + (zr (aNx a s) r + 1)))), none, some (.int y)]) (r + 1) (ab_dd tk_m_goesLots 72 rfl) rfl (by decide) rfl (fun _ => rfl) (iinc_p 1) ?_
          refine x_goto 77 (ab_dd tk_m_goesLots 73 rfl) (by decide) ?_
          rw [if_pos h95, if_pos h95, if_pos h95] at hI
          exact hI S1 hm1 hA1 hE1 hF1 h1 h2
    refine x_iload_n 1 3 (ab_dd tk_m_goesLots 0 rfl) rfl rfl rfl ?_
    refine x_if_ne_t 47 (ab_dd tk_m_goesLots 1 rfl) (by decide) (fun z => absurd ((nI_eq (a := (n + 1)) (b := 0) (by omega) (by omega)).mp z) (show ¬ ((n + 1) = 0) by omega)) ?_
    refine x_aload_n 48 0 (ab_dd tk_m_goesLots 27 rfl) rfl rfl rfl ?_
    refine x_iload_n 49 1 (ab_dd tk_m_goesLots 28 rfl) rfl rfl rfl ?_
    refine x_iconst 50 0 (ab_dd tk_m_goesLots 29 rfl) rfl (by decide) (x_topn 0 rfl ?_)
    refine x_aload_n 51 0 (ab_dd tk_m_goesLots 30 rfl) rfl rfl rfl ?_
    refine t_getP 54 121 (ab_dd tk_m_goesLots 31 rfl) rfl F_m_13 (by decide) (Nat.lt_of_lt_of_le (by decide) hm.1) (hm.2.1 0 (by decide)) rfl (hm.2.2 1 (by decide)) ?_
    refine x_bipush 56 40 (ab_dd tk_m_goesLots 32 rfl) rfl (by decide) (x_topn 40 rfl ?_)
    refine t_iald 57 40 (ab_dd tk_m_goesLots 33 rfl) rfl (by decide) (Nat.lt_of_lt_of_le (by decide) hm.1) (hm.2.1 1 (by decide)) rfl (by decide) (by decide) (x_topx (a 40) (congrFun hA 40) ?_)
    refine t_callV 60 M_m_stopTo 4 3 [_, _, _] (ab_dd tk_m_goesLots 34 rfl) rfl (by omega) K_m_stopTo V_m_stopTo.1 V_m_stopTo.2 L_m_273 rfl (Nat.le_of_ble_eq_true rfl) (by decide) (Nat.lt_of_lt_of_le (by decide) hm.1) (hm.2.1 0 (by decide)) rfl (w_stopTo (by exact hm) (by exact hA) ha s 0 _ hs (Or.inr rfl)) (fun v1 w1 h1 => ?_)
    obtain ⟨rfl, U1, rfl, um1, uA1, uE1⟩ := h1
    have hR1 : sI U1 121 1 = nI (aR a) := (congrFun uA1 1).trans ha.R.1
    refine x_istore 62 [some (.ref 120), some (.int (nI s)), some (.int (nI h)), some (.int (nI (n + 1))), some (.long (lN q)), none, some (.int (nI (aNx a s))), none, none, none] 6 (ab_dd tk_m_goesLots 35 rfl) rfl (by decide) rfl ?_
    refine x_bipush 64 10 (ab_dd tk_m_goesLots 36 rfl) rfl (by decide) (x_topn 10 rfl ?_)
    refine x_aload_n 65 0 (ab_dd tk_m_goesLots 37 rfl) rfl rfl rfl ?_
    refine t_getP 68 121 (ab_dd tk_m_goesLots 38 rfl) rfl F_m_13 (by decide) (Nat.lt_of_lt_of_le (by decide) um1.1) (um1.2.1 0 (by decide)) rfl (um1.2.2 1 (by decide)) ?_
    refine x_iconst 69 1 (ab_dd tk_m_goesLots 39 rfl) rfl (by decide) (x_topn 1 rfl ?_)
    refine t_iald 70 1 (ab_dd tk_m_goesLots 40 rfl) rfl (by decide) (Nat.lt_of_lt_of_le (by decide) um1.1) (um1.2.1 1 (by decide)) rfl (by decide) (by decide) (x_topn (aR a) hR1 ?_)
    refine x_isub 71 (ab_dd tk_m_goesLots 41 rfl) rfl (x_topn (10 - (aR a)) (pk_sub (by omega)) ?_)
    refine x_i2l 72 (ab_dd tk_m_goesLots 42 rfl) rfl (x_topL (lN (10 - (aR a))) (nI_l (by omega)) ?_)
    refine x_lstore 74 [some (.ref 120), some (.int (nI s)), some (.int (nI h)), some (.int (nI (n + 1))), some (.long (lN q)), none, some (.int (nI (aNx a s))), some (.long (lN (10 - (aR a)))), none, none] 7 (ab_dd tk_m_goesLots 43 rfl) rfl (by decide) rfl ?_
    refine x_iconst 75 0 (ab_dd tk_m_goesLots 44 rfl) rfl (by decide) (x_topn 0 rfl ?_)
    refine x_istore 77 [some (.ref 120), some (.int (nI s)), some (.int (nI h)), some (.int (nI (n + 1))), some (.long (lN q)), none, some (.int (nI (aNx a s))), some (.long (lN (10 - (aR a)))), none, some (.int (nI 0))] 9 (ab_dd tk_m_goesLots 45 rfl) rfl (by decide) rfl ?_
    exact loop (aR a) 0 (by omega) _ um1 uA1 ((sEq.rf (l := [120, 125, 126])).tr (uE1.mono (by decide))) (fEq.r2 uE1 (by decide) (by exact (fEq.rf (S := S)))) (by rw [uE1.2.2.2.1 120 (by decide)]; exact hWs) (by rw [uE1.2.2.2.1 120 (by decide)]; exact hHs)
def tb_m_laysLots : List (Nat × Instr × Nat) := [(0, .aload_n 0, 1), (1, .lconst 0, 1), (2, .putfield 445, 3), (5, .aload_n 0, 1), (6, .lconst 0, 1), (7, .putfield 449, 3), (10, .aload_n 0, 1), (11, .aload_n 0, 1), (12, .invokevirtual 266, 3), (15, .iload_n 1, 1), (16, .iload_n 2, 1), (17, .lconst 1, 1), (18, .invokevirtual 452, 3), (21, .return_, 1)]
theorem tk_m_laysLots : ∀ q ∈ tb_m_laysLots, decode M_m_laysLots.2.1 q.1 = .ok q.2 := by decide +kernel
theorem c_m_laysLots {G : ab_G} {S : ab_S} {a : Nat → Int32} (hm : mSh S) (hA : mA S = a) (ha : aOk a) (h n : Nat) (hh : h ≤ 4) (hn : n ≤ 6) : ab_C G (6 + n) M_m_laysLots [.ref 120, .int (nI h), .int (nI n)] (sw S) (fun v w' => v = none ∧ ∃ S', w' = sw S' ∧ mSh S' ∧ mA S' = a ∧ sEq [120, 125, 126] S S' ∧ fEq S S' ∧ sJ S' 120 40 = lN (tot (aNx a) (aR a) (fWm a h) n (aE a)) ∧ sJ S' 120 41 = lN (tot (aNx a) (aR a) (fSm a) n (aE a))) := by
  refine x_enter [some (.ref 120), some (.int (nI h)), some (.int (nI n))] (by decide) (Nat.le_of_ble_eq_true rfl) rfl (fun v w' h => by obtain ⟨rfl, -⟩ := h; trivial) ?_
  refine x_aload_n 1 0 (ab_dd tk_m_laysLots 0 rfl) rfl rfl rfl ?_
  refine x_lconst 2 0 (ab_dd tk_m_laysLots 1 rfl) rfl (by decide) (x_topL (lN 0) rfl ?_)
  refine t_putJ 5 (ab_dd tk_m_laysLots 2 rfl) rfl F_m_445 (by decide) (Nat.lt_of_lt_of_le (by decide) hm.1) (hm.2.1 0 (by decide)) rfl ?_
  refine x_aload_n 6 0 (ab_dd tk_m_laysLots 3 rfl) rfl rfl rfl ?_
  refine x_lconst 7 0 (ab_dd tk_m_laysLots 4 rfl) rfl (by decide) (x_topL (lN 0) rfl ?_)
  refine t_putJ 10 (ab_dd tk_m_laysLots 5 rfl) rfl F_m_449 (by decide) (Nat.lt_of_lt_of_le (by decide) hm.1) (hm.2.1 0 (by decide)) rfl ?_
  refine x_aload_n 11 0 (ab_dd tk_m_laysLots 6 rfl) rfl rfl rfl ?_
  refine x_aload_n 12 0 (ab_dd tk_m_laysLots 7 rfl) rfl rfl rfl ?_
  refine t_callV 15 M_m_standNow 1 0 [] (ab_dd tk_m_laysLots 8 rfl) rfl (by omega) K_m_standNow V_m_standNow.1 V_m_standNow.2 L_m_266 rfl (Nat.le_of_ble_eq_true rfl) (by decide) (Nat.lt_of_lt_of_le (by decide) hm.1) (hm.2.1 0 (by decide)) rfl (w_standNow (by exact hm) (by exact hA) ha) (fun v1 w1 h1 => ?_)
  obtain ⟨rfl, rfl⟩ := h1
  refine x_iload_n 16 1 (ab_dd tk_m_laysLots 9 rfl) rfl rfl rfl ?_
  refine x_iload_n 17 2 (ab_dd tk_m_laysLots 10 rfl) rfl rfl rfl ?_
  refine x_lconst 18 1 (ab_dd tk_m_laysLots 11 rfl) rfl (by decide) (x_topL (lN 1) rfl ?_)
  refine t_callV 21 M_m_goesLots (5 + n) 4 [_, _, _, _] (ab_dd tk_m_laysLots 12 rfl) rfl (by omega) K_m_goesLots V_m_goesLots.1 V_m_goesLots.2 L_m_452 rfl (Nat.le_of_ble_eq_true rfl) (by decide) (Nat.lt_of_lt_of_le (by decide) hm.1) (hm.2.1 0 (by decide)) rfl (c_m_goesLots ha h hh n (aE a) 1 0 0 _ hn (by exact hm) (by exact hA) ha.E ((sJ_pJo (Or.inr (by decide))).trans sJ_pJ) sJ_pJ) (fun v1 w1 h1 => ?_)
  obtain ⟨rfl, U1, rfl, um1, uA1, uE1, uF1, u1, u2⟩ := h1
  exact x_vret (ab_dd tk_m_laysLots 13 rfl) ⟨rfl, _, rfl, um1, uA1, ((((sEq.rf (l := [120, 125, 126])).pJ (by decide)).pJ (by decide)).tr (uE1.mono (by decide))), (fEq.t2 uF1 (by exact (fEq.pJ (fEq.pJ (fEq.rf (S := S)) ) ))), u1.trans (congrArg lN (by rw [Nat.zero_add, Nat.one_mul])), u2.trans (congrArg lN (by rw [Nat.zero_add, Nat.one_mul]))⟩
def tb_m_wholeOf : List (Nat × Instr × Nat) := [(0, .lconst 1, 1), (1, .lstore_n 1, 1), (2, .iconst 0, 1), (3, .istore_n 3, 1), (4, .iload_n 3, 1), (5, .iload_n 0, 1), (6, .if_icmp .ge 15, 3), (9, .lload_n 1, 1), (10, .ldc2_w 262, 3), (13, .lmul, 1), (14, .lstore_n 1, 1), (15, .iinc 3 1, 3), (18, .goto (-14), 3), (21, .lload_n 1, 1), (22, .lreturn, 1)]
theorem tk_m_wholeOf : ∀ q ∈ tb_m_wholeOf, decode M_m_wholeOf.2.1 q.1 = .ok q.2 := by decide +kernel
theorem c_m_wholeOf {G : ab_G} {S : ab_S} (n : Nat) (hn : n ≤ 6) : ab_C G 0 M_m_wholeOf [.int (nI n)] (sw S) (fun v w' => v = some (.long (lN (10 ^ n))) ∧ w' = sw S) := by
  refine x_enter [some (.int (nI n)), none, none, none] (by decide) (Nat.le_of_ble_eq_true rfl) rfl (fun v w' h => by obtain ⟨rfl, rfl⟩ := h; trivial) ?_
  have loop : ∀ (m k : Nat), k + m = n → ab_Ex G 0 M_m_wholeOf 4 [some (.int (nI n)), some (.long (lN (10 ^ k))), none, some (.int (nI k))] [] (sw S) (fun v w' => v = some (.long (lN (10 ^ n))) ∧ w' = sw S) := by
    intro m
    induction m with
    | zero =>
      intro k hk
      obtain rfl : k = n := by omega
      refine x_iload_n 5 3 (ab_dd tk_m_wholeOf 4 rfl) rfl rfl rfl ?_
      refine x_iload_n 6 0 (ab_dd tk_m_wholeOf 5 rfl) rfl rfl rfl ?_
      refine x_icmp_ge_t 21 (ab_dd tk_m_wholeOf 6 rfl) (by decide) ((nI_leI (a := k) (b := k) (by omega) (by omega)).mpr (show k ≤ k by omega)) ?_
      refine x_lload_n 22 1 (ab_dd tk_m_wholeOf 13 rfl) rfl rfl rfl ?_
      exact x_lret (ab_dd tk_m_wholeOf 14 rfl) ⟨rfl, rfl⟩
    | succ m ih =>
      intro k hk
      refine x_iload_n 5 3 (ab_dd tk_m_wholeOf 4 rfl) rfl rfl rfl ?_
      refine x_iload_n 6 0 (ab_dd tk_m_wholeOf 5 rfl) rfl rfl rfl ?_
      refine x_icmp_ge_f 9 (ab_dd tk_m_wholeOf 6 rfl) rfl 21 (by decide) (fun z => absurd ((nI_leI (a := n) (b := k) (by omega) (by omega)).mp z) (show ¬ (n ≤ k) by omega)) ?_
      refine x_lload_n 10 1 (ab_dd tk_m_wholeOf 7 rfl) rfl rfl rfl ?_
      refine x_ldc2 13 (ab_dd tk_m_wholeOf 8 rfl) rfl C_m_262 ?_
      refine x_lmul 14 (ab_dd tk_m_wholeOf 9 rfl) rfl (x_topL (lN (10 ^ (k + 1))) ((lN_mul (10 ^ k) 10).trans (congrArg lN (Nat.pow_succ (n := 10) (m := k)).symm)) ?_)
      refine x_lstore_n 15 [some (.int (nI n)), some (.long (lN (10 ^ (k + 1)))), none, some (.int (nI k))] 1 (ab_dd tk_m_wholeOf 10 rfl) rfl rfl (by decide) rfl ?_
      refine xn_iinc 18 3 (fun y => [some (.int (nI n)), some (.long (lN (10 ^ (k + 1)))), none, some (.int y)]) (k + 1) (ab_dd tk_m_wholeOf 11 rfl) rfl (by decide) rfl (fun _ => rfl) (iinc_p 1) ?_
      refine x_goto 4 (ab_dd tk_m_wholeOf 12 rfl) (by decide) ?_
      exact ih (k + 1) (by omega)
  refine x_lconst 1 1 (ab_dd tk_m_wholeOf 0 rfl) rfl (by decide) (x_topL (lN (10 ^ 0)) rfl ?_)
  refine x_lstore_n 2 [some (.int (nI n)), some (.long (lN (10 ^ 0))), none, none] 1 (ab_dd tk_m_wholeOf 1 rfl) rfl rfl (by decide) rfl ?_
  refine x_iconst 3 0 (ab_dd tk_m_wholeOf 2 rfl) rfl (by decide) (x_topn 0 rfl ?_)
  refine x_istore_n 4 [some (.int (nI n)), some (.long (lN (10 ^ 0))), none, some (.int (nI 0))] 3 (ab_dd tk_m_wholeOf 3 rfl) rfl rfl (by decide) rfl ?_
  exact loop n 0 (by omega)
def tb_m_common : List (Nat × Instr × Nat) := [(0, .lload_n 2, 1), (1, .lconst 0, 1), (2, .lcmp, 1), (3, .ifCond .ne 7, 3), (6, .lload_n 0, 1), (7, .goto 10, 3), (10, .lload_n 2, 1), (11, .lload_n 0, 1), (12, .lload_n 2, 1), (13, .lrem, 1), (14, .invokestatic 456, 3), (17, .lreturn, 1)]
theorem tk_m_common : ∀ q ∈ tb_m_common, decode M_m_common.2.1 q.1 = .ok q.2 := by decide +kernel
theorem mod_half {b r : Nat} (hr : 0 < r) (h : r ≤ b) : b % r < b / 2 + 1 ∧ 2 * (b % r) < b := by
  have h1 := Nat.mod_lt b hr
  have h2 := Nat.div_add_mod b r
  have h3 : 1 ≤ b / r := (Nat.one_le_div_iff hr).mpr h
  have h4 : r * 1 ≤ r * (b / r) := Nat.mul_le_mul_left r h3
  omega
theorem gcd_s {x y : Nat} : Nat.gcd x y = Nat.gcd y (x % y) := by rw [Nat.gcd_comm x y, Nat.gcd_rec y x, Nat.gcd_comm]
/-- one step of it -/
theorem common_s {G : ab_G} {S : ab_S} (d x y : Nat) (hx : x < 2 ^ 62) (hy : y < 2 ^ 62) (h0 : 0 < y) (h : ab_C G d M_m_common [.long (lN y), .long (lN (x % y))] (sw S) (fun v w' => v = some (.long (lN (Nat.gcd y (x % y)))) ∧ w' = sw S)) : ab_C G (d + 1) M_m_common [.long (lN x), .long (lN y)] (sw S) (fun v w' => v = some (.long (lN (Nat.gcd x y))) ∧ w' = sw S) := by
  refine x_enter [some (.long (lN x)), none, some (.long (lN y)), none] (by decide) (Nat.le_of_ble_eq_true rfl) rfl (fun v w' h => by obtain ⟨rfl, rfl⟩ := h; trivial) ?_
  refine x_lload_n 1 2 (ab_dd tk_m_common 0 rfl) rfl rfl rfl ?_
  refine x_lconst 2 0 (ab_dd tk_m_common 1 rfl) rfl (by decide) ?_
  refine x_lcmp 3 (ab_dd tk_m_common 2 rfl) rfl ?_
  refine x_if_ne_t 10 (ab_dd tk_m_common 3 rfl) (by decide) (fun z => absurd ((pk_lEQ (b := 0) (by omega) (by decide)).mp ((lg_cmp_eq _ _).mp z)) (by omega)) ?_
  refine x_lload_n 11 2 (ab_dd tk_m_common 6 rfl) rfl rfl rfl ?_
  refine x_lload_n 12 0 (ab_dd tk_m_common 7 rfl) rfl rfl rfl ?_
  refine x_lload_n 13 2 (ab_dd tk_m_common 8 rfl) rfl rfl rfl ?_
  refine x_lrem 14 (ab_dd tk_m_common 9 rfl) rfl (fun e => absurd ((pk_lEQ (b := 0) (by omega) (by decide)).mp e) (by omega)) (x_topL (lN (x % y)) (pk_lRem (by omega) h0 (by omega)) ?_)
  refine x_callS 17 M_m_common d 2 [_, _] (ab_dd tk_m_common 10 rfl) rfl (Nat.le_refl _) K_m_common T_m_common L_m_456 rfl (Nat.le_of_ble_eq_true rfl) (h) (fun v1 w1 h1 => ?_)
  obtain ⟨rfl, rfl⟩ := h1
  exact x_lret (ab_dd tk_m_common 11 rfl) ⟨rJ (by rw [← gcd_s]), rfl⟩
theorem common_0 {G : ab_G} {S : ab_S} (d x : Nat) : ab_C G d M_m_common [.long (lN x), .long (lN 0)] (sw S) (fun v w' => v = some (.long (lN (Nat.gcd x 0))) ∧ w' = sw S) := by
  refine x_enter [some (.long (lN x)), none, some (.long (lN 0)), none] (by decide) (Nat.le_of_ble_eq_true rfl) rfl (fun v w' h => by obtain ⟨rfl, rfl⟩ := h; trivial) ?_
  refine x_lload_n 1 2 (ab_dd tk_m_common 0 rfl) rfl rfl rfl ?_
  refine x_lconst 2 0 (ab_dd tk_m_common 1 rfl) rfl (by decide) ?_
  refine x_lcmp 3 (ab_dd tk_m_common 2 rfl) rfl ?_
  refine x_if_ne_f 6 (ab_dd tk_m_common 3 rfl) rfl 10 (by decide) rfl ?_
  refine x_lload_n 7 0 (ab_dd tk_m_common 4 rfl) rfl rfl rfl ?_
  refine x_goto 17 (ab_dd tk_m_common 5 rfl) (by decide) ?_
  exact x_lret (ab_dd tk_m_common 11 rfl) ⟨rJ (by rw [Nat.gcd_zero_right]), rfl⟩
theorem c_m_common {G : ab_G} {S : ab_S} : ∀ (k x y : Nat), x < 2 ^ 62 → y < 2 ^ 62 → y < 2 ^ k → ab_C G (2 * k + 2) M_m_common [.long (lN x), .long (lN y)] (sw S) (fun v w' => v = some (.long (lN (Nat.gcd x y))) ∧ w' = sw S)
  | 0, x, y, _, _, h => by
    obtain rfl : y = 0 := by rw [Nat.pow_zero] at h; omega
    exact common_0 _ x
  | k + 1, x, y, hx, hy, h => by
    by_cases z : y = 0
    · subst z; exact common_0 _ x
    · have hr := Nat.mod_lt x (show 0 < y by omega)
      refine common_s (2 * k + 3) x y hx hy (by omega) ?_
      by_cases z2 : x % y = 0
      · rw [z2]; exact common_0 _ y
      · refine common_s (2 * k + 2) y (x % y) hy (by omega) (by omega) ?_
        have h2 := (mod_half (b := y) (r := x % y) (by omega) (by omega)).2
        have h3 := Nat.mod_lt y (show 0 < x % y by omega)
        rw [Nat.pow_succ] at h
        exact c_m_common k (x % y) (y % (x % y)) (by omega) (by omega) (by omega)
def aPa (x y : Nat) (what : Int32) : Int32 := (lN ((if what = 0 then x else y) / Nat.gcd x y)).toInt32
def tb_m_part : List (Nat × Instr × Nat) := [(0, .iload 4, 2), (2, .ifCond .ne 7, 3), (5, .lload_n 0, 1), (6, .goto 4, 3), (9, .lload_n 2, 1), (10, .lload_n 0, 1), (11, .lload_n 2, 1), (12, .invokestatic 456, 3), (15, .ldiv, 1), (16, .l2i, 1), (17, .ireturn, 1)]
theorem tk_m_part : ∀ q ∈ tb_m_part, decode M_m_part.2.1 q.1 = .ok q.2 := by decide +kernel
theorem c_m_part {G : ab_G} {S : ab_S} (x y : Nat) (what : Int32) (hx : x < 2 ^ 40) (hy : y < 2 ^ 20) (h0 : 0 < y) : ab_C G 45 M_m_part [.long (lN x), .long (lN y), .int what] (sw S) (fun v w' => v = some (.int (aPa x y what)) ∧ w' = sw S) := by
  refine x_enter [some (.long (lN x)), none, some (.long (lN y)), none, some (.int what)] (by decide) (Nat.le_of_ble_eq_true rfl) rfl (fun v w' h => by obtain ⟨rfl, rfl⟩ := h; rfl) ?_
  have hg : 0 < Nat.gcd x y := Nat.gcd_pos_of_pos_right x h0
  have hgl : Nat.gcd x y ≤ y := Nat.gcd_le_right x h0
  have e40 : (2 : Nat) ^ 40 = 1099511627776 := by decide
  have e20 : (2 : Nat) ^ 20 = 1048576 := by decide
  have e62 : (2 : Nat) ^ 62 = 4611686018427387904 := by decide
  have e63 : (2 : Nat) ^ 63 = 9223372036854775808 := by decide
  have e21 : (2 : Nat) ^ 21 = 2097152 := by decide
  rw [e40] at hx
  rw [e20] at hy
  refine x_iload 2 4 (ab_dd tk_m_part 0 rfl) rfl rfl ?_
  refine x_if_ne 5 9 (ab_dd tk_m_part 1 rfl) rfl (by decide) (fun h2 => ?_) (fun h2 => ?_)
  · refine x_lload_n 10 2 (ab_dd tk_m_part 4 rfl) rfl rfl rfl (x_topL (lN y) rfl ?_)
    refine x_lload_n 11 0 (ab_dd tk_m_part 5 rfl) rfl rfl rfl ?_
    refine x_lload_n 12 2 (ab_dd tk_m_part 6 rfl) rfl rfl rfl ?_
    refine x_callS 15 M_m_common 44 2 [_, _] (ab_dd tk_m_part 7 rfl) rfl (by decide) K_m_common T_m_common L_m_456 rfl (Nat.le_of_ble_eq_true rfl) (c_m_common 21 x y (by omega) (by omega) (by omega)) (fun v1 w1 h1 => ?_)
    obtain ⟨rfl, rfl⟩ := h1
    refine x_ldiv 16 (ab_dd tk_m_part 8 rfl) rfl (fun e => absurd ((pk_lEQ (b := 0) (by omega) (by decide)).mp e) (by omega)) (x_topL (lN (y / Nat.gcd x y)) (pk_lDiv (by omega) hg (by omega)) ?_)
    refine x_l2i 17 (ab_dd tk_m_part 9 rfl) rfl ?_
    exact x_iret (ab_dd tk_m_part 10 rfl) ⟨rI (by unfold aPa; rw [if_neg h2]), rfl⟩
  · refine x_lload_n 6 0 (ab_dd tk_m_part 2 rfl) rfl rfl rfl (x_topL (lN x) rfl ?_)
    refine x_goto 10 (ab_dd tk_m_part 3 rfl) (by decide) ?_
    refine x_lload_n 11 0 (ab_dd tk_m_part 5 rfl) rfl rfl rfl ?_
    refine x_lload_n 12 2 (ab_dd tk_m_part 6 rfl) rfl rfl rfl ?_
    refine x_callS 15 M_m_common 44 2 [_, _] (ab_dd tk_m_part 7 rfl) rfl (by decide) K_m_common T_m_common L_m_456 rfl (Nat.le_of_ble_eq_true rfl) (c_m_common 21 x y (by omega) (by omega) (by omega)) (fun v1 w1 h1 => ?_)
    obtain ⟨rfl, rfl⟩ := h1
    refine x_ldiv 16 (ab_dd tk_m_part 8 rfl) rfl (fun e => absurd ((pk_lEQ (b := 0) (by omega) (by decide)).mp e) (by omega)) (x_topL (lN (x / Nat.gcd x y)) (pk_lDiv (by omega) hg (by omega)) ?_)
    refine x_l2i 17 (ab_dd tk_m_part 9 rfl) rfl ?_
    exact x_iret (ab_dd tk_m_part 10 rfl) ⟨rI (by unfold aPa; rw [if_pos h2]), rfl⟩
