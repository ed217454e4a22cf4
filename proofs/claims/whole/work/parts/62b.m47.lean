theorem lB_r (q : Nat) (F : Nat → Int32) (f : Nat → (Nat → Int32) → lR) : lB (.inr (q, F)) f = f q F := rfl
/-- how many riders and codes there are so far -/
def rwI (p : Nat) (F : Nat → Int32) : Prop := ∃ r N, r ≤ 4 ∧ F 1 = nI r ∧ F 183 = nI N ∧ N ≤ p
theorem rdr_g {tp : Nat → Nat} {n p q : Nat} {F F' : Nat → Int32} (hp : p ≤ n) (h24 : tK tp n p ≠ 24) (hI : rwI p F) (h : rdr tp n p F = .inr (q, F')) : p < q ∧ q ≤ n ∧ rwI q F' := by
  obtain ⟨r, N, hr, h1, hN, hNp⟩ := hI
  have hcr : cN (F 1) = r := by rw [h1]; exact cN_nI (by omega)
  have g0 := tE_g hp h24
  unfold rdr at h
  rw [hcr] at h
  split at h
  · cases h
  · rcases hX : xM tp n 3 3 (tE tp n p) with e | ⟨q1, v1⟩
    · rw [hX] at h; cases h
    · rw [hX, bN_r] at h
      rcases hY : xM tp n 4 9 q1 with e | ⟨q2, v2⟩
      · rw [hY] at h; cases h
      · rw [hY, bN_r] at h
        have g1 := xM_g (by decide) g0.2 hX
        have g2 := xM_g (by decide) g1.2.1 hY
        rcases hZ : fl tp n r 1000 q2 (up1 (up1 (up1 (up1 F (28 + r) (nI v1)) (8 + r) (nI v2)) (32 + r) (nI 2)) (36 + r) (nI r)) with e | ⟨q3, F3⟩
        · rw [hZ] at h; cases h
        · rw [hZ, lB_r] at h
          obtain ⟨rfl, rfl⟩ := Prod.mk.inj (Sum.inr.inj h)
          have g3 := fl_g (show r < 4 by omega) _ _ _ _ _ g2.2.1 hZ
          refine ⟨by omega, g3.2.1, r + 1, N, by omega, up1_s, ?_, by omega⟩
          rw [up1_o (by decide), g3.2.2 183 (by omega), up1_o (by omega), up1_o (by omega), up1_o (by omega), up1_o (by omega)]
          exact hN
theorem lwr_g {tp : Nat → Nat} {n la p q : Nat} {F F' : Nat → Int32} (hn9 : n ≤ 900) (hla : la < 2) (hp : p ≤ n) (h24 : tK tp n p ≠ 24) (hI : rwI p F) (h : lwr tp n la p F = .inr (q, F')) : p < q ∧ q ≤ n ∧ rwI q F' := by
  obtain ⟨r, N, hr, h1, hN, hNp⟩ := hI
  have hcN : cN (F 183) = N := by rw [hN]; exact cN_nI (by omega)
  have g0 := tE_g hp h24
  unfold lwr wX at h
  split at h
  · rename_i hk
    have g1 := tE_g (tp := tp) g0.2 (show tK tp n (tE tp n p) ≠ 24 by omega)
    dsimp only at h
    split at h
    · cases h
    · rename_i x hX
      obtain ⟨q1, c1⟩ := x
      obtain ⟨rfl, rfl⟩ := Prod.mk.inj (Sum.inr.inj h)
      have g2 := pS_len _ _ _ _ _ _ g1.2 hX
      obtain ⟨ga, gb, gc, gd⟩ := g2
      refine ⟨by show p < q1; omega, gb, r, cN (F 183) + c1.length, hr, ?_, ?_, ?_⟩
      · unfold lwF
        rw [up1_o (by omega), up1_o (by omega), up1_o (by omega)]
        unfold appC
        rw [if_neg (by decide), if_neg (by omega)]
        exact h1
      · unfold lwF
        rw [up1_o (by omega), up1_o (by omega), up1_o (by omega)]
        exact appC_N _ _ _
      · show _ ≤ q1
        omega
  · cases h
theorem lnr_g {tp : Nat → Nat} {n p q : Nat} {F F' : Nat → Int32} (hn9 : n ≤ 900) (hp : p ≤ n) (hI : rwI p F) (h : lnr tp n p F = .inr (q, F')) : p < q ∧ q ≤ n ∧ rwI q F' := by
  unfold lnr at h
  split at h
  · exact rdr_g hp (by omega) hI h
  · split at h
    · exact lwr_g hn9 (by omega) hp (by omega) hI h
    · cases h
theorem cls_g {tp : Nat → Nat} {n p q : Nat} {F F' : Nat → Int32} (hp : p ≤ n) (h : cls tp n p F = .inr (q, F')) : p < q ∧ q ≤ n ∧ tK tp n p = 30 ∧ q = tE tp n p ∧ F' = up1 F 0 (F 0 + 1) := by
  unfold cls wX at h
  split at h
  · rename_i hk
    obtain ⟨rfl, rfl⟩ := Prod.mk.inj (Sum.inr.inj h)
    have := tE_g (tp := tp) hp (show tK tp n p ≠ 24 by omega)
    exact ⟨this.1, this.2, hk, rfl, rfl⟩
  · cases h
theorem rwI.up {p q j : Nat} {F : Nat → Int32} {x : Int32} (h : rwI p F) (hq : p ≤ q) (h1 : 1 ≠ j) (h2 : 183 ≠ j) : rwI q (up1 F j x) := by
  obtain ⟨r, N, hr, a1, a2, a3⟩ := h
  exact ⟨r, N, hr, (up1_o h1).trans a1, (up1_o h2).trans a2, by omega⟩
def tb_m_readLine : List (Nat × Instr × Nat) := [(0, .aload_n 0, 1), (1, .getfield 143, 3), (4, .ifCond .eq 4, 3), (7, .return_, 1), (8, .aload_n 0, 1), (9, .iconst 2, 1), (10, .invokevirtual 149, 3), (13, .ifCond .eq 10, 3), (16, .aload_n 0, 1), (17, .invokevirtual 210, 3), (20, .goto 40, 3), (23, .aload_n 0, 1), (24, .bipush 7, 2), (26, .invokevirtual 149, 3), (29, .ifCond .ne 12, 3), (32, .aload_n 0, 1), (33, .bipush 8, 2), (35, .invokevirtual 149, 3), (38, .ifCond .eq 17, 3), (41, .aload_n 0, 1), (42, .aload_n 0, 1), (43, .getfield 125, 3), (46, .bipush 7, 2), (48, .isub, 1), (49, .invokevirtual 213, 3), (52, .goto 8, 3), (55, .aload_n 0, 1), (56, .iconst 2, 1), (57, .invokevirtual 155, 3), (60, .return_, 1)]
theorem tk_m_readLine : ∀ q ∈ tb_m_readLine, decode M_m_readLine.2.1 q.1 = .ok q.2 := by decide +kernel
theorem L_readLine {G : ab_G} {S : ab_S} {tp : Nat → Nat} {n p : Nat} (hL : rL S tp n p) (hI : rwI p (sI S 124)) : ab_C G 81 M_m_readLine [.ref 120] (sw S) (rK5 S tp n (lnr tp n p (sI S 124))) := by
  refine x_enter [some (.ref 120)] (by decide) (Nat.le_of_ble_eq_true rfl) rfl (fun v w' h => by obtain ⟨rfl, -⟩ := h; trivial) ?_
  have hk42 := tK_lt tp n p
  have hp := hL.2.2.2.2.2.1
  have hn9 := hL.2.2.2.1
  have hr42 := tN_lt (tp := tp) hp
  obtain ⟨r, N, hr4, hF1, hN, hNp⟩ := hI
  refine x_aload_n 1 0 (ab_dd tk_m_readLine 0 rfl) rfl rfl rfl ?_
  refine t_getI 4 (ab_dd tk_m_readLine 1 rfl) rfl F_m_143 (by decide) (Nat.lt_of_lt_of_le (by decide) hL.1.1) (hL.1.2.1 0 (by decide)) rfl (x_topn 0 hL.2.2.2.2.2.2.2 ?_)
  refine x_if_eq_t 8 (ab_dd tk_m_readLine 2 rfl) (by decide) ((nI_eq (a := 0) (b := 0) (by omega) (by omega)).mpr (show 0 = 0 by omega)) ?_
  refine x_aload_n 9 0 (ab_dd tk_m_readLine 4 rfl) rfl rfl rfl ?_
  refine x_iconst 10 2 (ab_dd tk_m_readLine 5 rfl) rfl (by decide) (x_topn 2 rfl ?_)
  refine t_callV 13 M_m_is 0 1 [_] (ab_dd tk_m_readLine 6 rfl) rfl (by first | decide | omega) K_m_is V_m_is.1 V_m_is.2 L_m_149 rfl (Nat.le_of_ble_eq_true rfl) (by decide) (Nat.lt_of_lt_of_le (by decide) hL.1.1) (hL.1.2.1 0 (by decide)) rfl (L_is hL 2 (by decide)) (fun v1 w1 h1 => ?_)
  obtain ⟨rfl, rfl⟩ := h1
  refine xb_if_eq 16 23 (ab_dd tk_m_readLine 7 rfl) rfl (by decide) (fun h13 => ?_) (fun h13 => ?_)
  · refine x_aload_n 24 0 (ab_dd tk_m_readLine 11 rfl) rfl rfl rfl ?_
    refine x_bipush 26 7 (ab_dd tk_m_readLine 12 rfl) rfl (by decide) (x_topn 7 rfl ?_)
    refine t_callV 29 M_m_is 0 1 [_] (ab_dd tk_m_readLine 13 rfl) rfl (by first | decide | omega) K_m_is V_m_is.1 V_m_is.2 L_m_149 rfl (Nat.le_of_ble_eq_true rfl) (by decide) (Nat.lt_of_lt_of_le (by decide) hL.1.1) (hL.1.2.1 0 (by decide)) rfl (L_is hL 7 (by decide)) (fun v1 w1 h1 => ?_)
    obtain ⟨rfl, rfl⟩ := h1
    refine xb_if_ne 32 41 (ab_dd tk_m_readLine 14 rfl) rfl (by decide) (fun h29 => ?_) (fun h29 => ?_)
    · refine x_aload_n 42 0 (ab_dd tk_m_readLine 19 rfl) rfl rfl rfl ?_
      refine x_aload_n 43 0 (ab_dd tk_m_readLine 20 rfl) rfl rfl rfl ?_
      refine t_getI 46 (ab_dd tk_m_readLine 21 rfl) rfl F_m_125 (by decide) (Nat.lt_of_lt_of_le (by decide) hL.1.1) (hL.1.2.1 0 (by decide)) rfl (x_topn (tK tp n p) hL.2.2.2.2.2.2.1.2.2.1 ?_)
      refine x_bipush 48 7 (ab_dd tk_m_readLine 22 rfl) rfl (by decide) (x_topn 7 rfl ?_)
      refine x_isub 49 (ab_dd tk_m_readLine 23 rfl) rfl (x_topn ((tK tp n p) - 7) (pk_sub (by omega)) ?_)
      refine t_callV 52 M_m_readLaw 80 1 [_] (ab_dd tk_m_readLine 24 rfl) rfl (by first | decide | omega) K_m_readLaw V_m_readLaw.1 V_m_readLaw.2 L_m_213 rfl (Nat.le_of_ble_eq_true rfl) (by decide) (Nat.lt_of_lt_of_le (by decide) hL.1.1) (hL.1.2.1 0 (by decide)) rfl (L_readLaw hL (tK tp n p - 7) (by omega) (by omega) N hN hNp) (fun v1 w1 h1 => ?_)
      obtain ⟨rfl, U1, rfl, uF1, uO1⟩ := h1
      refine x_goto 60 (ab_dd tk_m_readLine 25 rfl) (by decide) ?_
      have hsp : lnr tp n p (sI S 124) = lwr tp n (tK tp n p - 7) p (sI S 124) := by unfold lnr; rw [if_neg h13, if_pos (by omega)]
      exact x_vret (ab_dd tk_m_readLine 29 rfl) ⟨rfl, _, rfl, uF1, by rw [hsp]; exact uO1⟩
    · refine x_aload_n 33 0 (ab_dd tk_m_readLine 15 rfl) rfl rfl rfl ?_
      refine x_bipush 35 8 (ab_dd tk_m_readLine 16 rfl) rfl (by decide) (x_topn 8 rfl ?_)
      refine t_callV 38 M_m_is 0 1 [_] (ab_dd tk_m_readLine 17 rfl) rfl (by first | decide | omega) K_m_is V_m_is.1 V_m_is.2 L_m_149 rfl (Nat.le_of_ble_eq_true rfl) (by decide) (Nat.lt_of_lt_of_le (by decide) hL.1.1) (hL.1.2.1 0 (by decide)) rfl (L_is hL 8 (by decide)) (fun v1 w1 h1 => ?_)
      obtain ⟨rfl, rfl⟩ := h1
      refine xb_if_eq 41 55 (ab_dd tk_m_readLine 18 rfl) rfl (by decide) (fun h38 => ?_) (fun h38 => ?_)
      · refine x_aload_n 56 0 (ab_dd tk_m_readLine 26 rfl) rfl rfl rfl ?_
        refine x_iconst 57 2 (ab_dd tk_m_readLine 27 rfl) rfl (by decide) (x_topn 2 rfl ?_)
        refine t_callV 60 M_m_fails 0 1 [_] (ab_dd tk_m_readLine 28 rfl) rfl (by first | decide | omega) K_m_fails V_m_fails.1 V_m_fails.2 L_m_155 rfl (Nat.le_of_ble_eq_true rfl) (by decide) (Nat.lt_of_lt_of_le (by decide) hL.1.1) (hL.1.2.1 0 (by decide)) rfl (L_fails hL 2 (by decide) (by decide)) (fun v1 w1 h1 => ?_)
        obtain ⟨rfl, U1, rfl, uF1, uQ1, uD1⟩ := h1
        have hu1 := uD1.2.2.2
        have hsp : lnr tp n p (sI S 124) = .inl (pE tp n p 2) := by unfold lnr; rw [if_neg h13, if_neg (by omega)]
        exact x_vret (ab_dd tk_m_readLine 29 rfl) ⟨rfl, _, rfl, rF5.of (rF.rf.tr uF1), by rw [hsp]; exact uD1⟩
      · refine x_aload_n 42 0 (ab_dd tk_m_readLine 19 rfl) rfl rfl rfl ?_
        refine x_aload_n 43 0 (ab_dd tk_m_readLine 20 rfl) rfl rfl rfl ?_
        refine t_getI 46 (ab_dd tk_m_readLine 21 rfl) rfl F_m_125 (by decide) (Nat.lt_of_lt_of_le (by decide) hL.1.1) (hL.1.2.1 0 (by decide)) rfl (x_topn (tK tp n p) hL.2.2.2.2.2.2.1.2.2.1 ?_)
        refine x_bipush 48 7 (ab_dd tk_m_readLine 22 rfl) rfl (by decide) (x_topn 7 rfl ?_)
        refine x_isub 49 (ab_dd tk_m_readLine 23 rfl) rfl (x_topn ((tK tp n p) - 7) (pk_sub (by omega)) ?_)
        refine t_callV 52 M_m_readLaw 80 1 [_] (ab_dd tk_m_readLine 24 rfl) rfl (by first | decide | omega) K_m_readLaw V_m_readLaw.1 V_m_readLaw.2 L_m_213 rfl (Nat.le_of_ble_eq_true rfl) (by decide) (Nat.lt_of_lt_of_le (by decide) hL.1.1) (hL.1.2.1 0 (by decide)) rfl (L_readLaw hL (tK tp n p - 7) (by omega) (by omega) N hN hNp) (fun v1 w1 h1 => ?_)
        obtain ⟨rfl, U1, rfl, uF1, uO1⟩ := h1
        refine x_goto 60 (ab_dd tk_m_readLine 25 rfl) (by decide) ?_
        have hsp : lnr tp n p (sI S 124) = lwr tp n (tK tp n p - 7) p (sI S 124) := by unfold lnr; rw [if_neg h13, if_pos (by omega)]
        exact x_vret (ab_dd tk_m_readLine 29 rfl) ⟨rfl, _, rfl, uF1, by rw [hsp]; exact uO1⟩
  · refine x_aload_n 17 0 (ab_dd tk_m_readLine 8 rfl) rfl rfl rfl ?_
    refine t_callV 20 M_m_readRider 8 0 [] (ab_dd tk_m_readLine 9 rfl) rfl (by first | decide | omega) K_m_readRider V_m_readRider.1 V_m_readRider.2 L_m_210 rfl (Nat.le_of_ble_eq_true rfl) (by decide) (Nat.lt_of_lt_of_le (by decide) hL.1.1) (hL.1.2.1 0 (by decide)) rfl (L_readRider hL h13 r hr4 hF1) (fun v1 w1 h1 => ?_)
    obtain ⟨rfl, U1, rfl, uF1, uO1⟩ := h1
    refine x_goto 60 (ab_dd tk_m_readLine 10 rfl) (by decide) ?_
    have hsp : lnr tp n p (sI S 124) = rdr tp n p (sI S 124) := by unfold lnr; rw [if_pos h13]
    exact x_vret (ab_dd tk_m_readLine 29 rfl) ⟨rfl, _, rfl, rF5.of uF1, by rw [hsp]; exact uO1⟩
def tb_m_plain : List (Nat × Instr × Nat) := [(0, .iconst 0, 1), (1, .istore_n 1, 1), (2, .iload_n 1, 1), (3, .sipush 1084, 3), (6, .if_icmp .ge 13, 3), (9, .aload_n 0, 1), (10, .iload_n 1, 1), (11, .iconst 0, 1), (12, .iastore, 1), (13, .iinc 1 1, 3), (16, .goto (-14), 3), (19, .return_, 1)]
theorem tk_m_plain : ∀ q ∈ tb_m_plain, decode M_m_plain.2.1 q.1 = .ok q.2 := by decide +kernel
theorem c_m_plain4 {G : ab_G} {S : ab_S} (hm : mSh S) : ab_C G 0 M_m_plain [.ref 124] (sw S) (fun v w' => v = none ∧ ∃ S', w' = sw S' ∧ sEq [124] S S' ∧ sI S' 124 = fun j => if j < 1084 then 0 else sI S 124 j) := by
  refine x_enter [some (.ref 124), none] (by decide) (Nat.le_of_ble_eq_true rfl) rfl (fun v w' h => by obtain ⟨rfl, -⟩ := h; trivial) ?_
  have lp : ∀ (m k : Nat), k + m = 1084 → ∀ S1 : ab_S, sEq [124] S S1 → (∀ j, sI S1 124 j = if j < k then 0 else sI S 124 j) → ab_Ex G 0 M_m_plain 2 [some (.ref 124), some (.int (nI k))] [] (sw S1) (fun v w' => v = none ∧ ∃ S', w' = sw S' ∧ sEq [124] S S' ∧ sI S' 124 = fun j => if j < 1084 then 0 else sI S 124 j) := by
    intro m
    induction m with
    | zero =>
      intro k hk S1 hE hV
      obtain rfl : k = 1084 := by omega
      have hm1 : mSh S1 := hm.eq hE
      refine x_iload_n 3 1 (ab_dd tk_m_plain 2 rfl) rfl rfl rfl ?_
      refine x_sipush 6 1084 (ab_dd tk_m_plain 3 rfl) rfl (by decide) (x_topn 1084 rfl ?_)
      refine x_icmp_ge_t 19 (ab_dd tk_m_plain 4 rfl) (by decide) ((nI_leI (a := 1084) (b := 1084) (by omega) (by omega)).mpr (show 1084 ≤ 1084 by omega)) ?_
      exact x_vret (ab_dd tk_m_plain 11 rfl) ⟨rfl, _, rfl, hE, funext hV⟩
    | succ m ih =>
      intro k hk S1 hE hV
      have hm1 : mSh S1 := hm.eq hE
      refine x_iload_n 3 1 (ab_dd tk_m_plain 2 rfl) rfl rfl rfl ?_
      refine x_sipush 6 1084 (ab_dd tk_m_plain 3 rfl) rfl (by decide) (x_topn 1084 rfl ?_)
      refine x_icmp_ge_f 9 (ab_dd tk_m_plain 4 rfl) rfl 19 (by decide) (fun z => absurd ((nI_leI (a := 1084) (b := k) (by omega) (by omega)).mp z) (show ¬ (1084 ≤ k) by omega)) ?_
      refine x_aload_n 10 0 (ab_dd tk_m_plain 5 rfl) rfl rfl rfl ?_
      refine x_iload_n 11 1 (ab_dd tk_m_plain 6 rfl) rfl rfl rfl ?_
      refine x_iconst 12 0 (ab_dd tk_m_plain 7 rfl) rfl (by decide) (x_topn 0 rfl ?_)
      refine t_iast 13 k (ab_dd tk_m_plain 8 rfl) rfl (by decide) (Nat.lt_of_lt_of_le (by decide) hm1.1) (hm1.2.1 4 (by decide)) rfl (by omega) (by decide) ?_
      refine xn_iinc 16 1 (fun y => [some (.ref 124), some (.int y)]) (k + 1) (ab_dd tk_m_plain 9 rfl) rfl (by decide) rfl (fun _ => rfl) (iinc_p 1) ?_
      refine x_goto 2 (ab_dd tk_m_plain 10 rfl) (by decide) ?_
      refine ih (k + 1) (by omega) _ (hE.pI (by decide)) (fun j => ?_)
      by_cases hj : j = k
      · rw [hj, if_pos (by omega)]; exact gI_s
      · rw [gI_k hj, hV j]
        by_cases h1 : j < k
        · rw [if_pos h1, if_pos (by omega)]
        · rw [if_neg h1, if_neg (by omega)]
  refine x_iconst 1 0 (ab_dd tk_m_plain 0 rfl) rfl (by decide) (x_topn 0 rfl ?_)
  refine x_istore_n 2 [some (.ref 124), some (.int (nI 0))] 1 (ab_dd tk_m_plain 1 rfl) rfl rfl (by decide) rfl ?_
  exact lp 1084 0 (by omega) S sEq.rf (fun j => by rw [if_neg (Nat.not_lt_zero j)])
def tb_m_train : List (Nat × Instr × Nat) := [(0, .aload_n 0, 1), (1, .iconst 0, 1), (2, .putfield 1, 3), (5, .iload_n 1, 1), (6, .i2l, 1), (7, .lconst 0, 1), (8, .aload_n 0, 1), (9, .getfield 97, 3), (12, .i2l, 1), (13, .invokestatic 159, 3), (16, .ifCond .ne 6, 3), (19, .bipush (-3), 2), (21, .ireturn, 1), (22, .aload_n 0, 1), (23, .iload_n 1, 1), (24, .putfield 100, 3), (27, .aload_n 0, 1), (28, .iconst 0, 1), (29, .putfield 97, 3), (32, .aload_n 0, 1), (33, .iconst 0, 1), (34, .putfield 118, 3), (37, .aload_n 0, 1), (38, .iconst 0, 1), (39, .putfield 143, 3), (42, .aload_n 0, 1), (43, .getfield 24, 3), (46, .invokestatic 93, 3), (49, .aload_n 0, 1), (50, .invokevirtual 152, 3), (53, .aload_n 0, 1), (54, .iconst 0, 1), (55, .invokevirtual 178, 3), (58, .ifCond .ne 8, 3), (61, .aload_n 0, 1), (62, .iconst 2, 1), (63, .invokevirtual 155, 3), (66, .aload_n 0, 1), (67, .getfield 24, 3), (70, .bipush 40, 2), (72, .aload_n 0, 1), (73, .iconst 1, 1), (74, .iconst 0, 1), (75, .bipush 9, 2), (77, .invokevirtual 203, 3), (80, .iastore, 1), (81, .aload_n 0, 1), (82, .invokevirtual 216, 3), (85, .aload_n 0, 1), (86, .getfield 143, 3), (89, .ifCond .ne 23, 3), (92, .aload_n 0, 1), (93, .getfield 125, 3), (96, .bipush 24, 2), (98, .if_icmp .eq 14, 3), (101, .aload_n 0, 1), (102, .invokevirtual 219, 3), (105, .aload_n 0, 1), (106, .invokevirtual 216, 3), (109, .goto (-24), 3), (112, .aload_n 0, 1), (113, .aload_n 0, 1), (114, .getfield 143, 3), (117, .putfield 222, 3), (120, .aload_n 0, 1), (121, .aload_n 0, 1), (122, .getfield 143, 3), (125, .ifCond .ne 7, 3), (128, .iconst (-1), 1), (129, .goto 7, 3), (132, .aload_n 0, 1), (133, .getfield 146, 3), (136, .putfield 27, 3), (139, .aload_n 0, 1), (140, .getfield 143, 3), (143, .ifCond .eq 11, 3), (146, .bipush (-30), 2), (148, .aload_n 0, 1), (149, .getfield 143, 3), (152, .isub, 1), (153, .ireturn, 1), (154, .iconst 0, 1), (155, .istore_n 2, 1), (156, .iload_n 2, 1), (157, .sipush 1084, 3), (160, .if_icmp .ge 21, 3), (163, .aload_n 0, 1), (164, .getfield 13, 3), (167, .iload_n 2, 1), (168, .aload_n 0, 1), (169, .getfield 24, 3), (172, .iload_n 2, 1), (173, .iaload, 1), (174, .iastore, 1), (175, .iinc 2 1, 3), (178, .goto (-22), 3), (181, .aload_n 0, 1), (182, .getfield 13, 3), (185, .iconst 0, 1), (186, .iaload, 1), (187, .ireturn, 1)]
theorem tk_m_train : ∀ q ∈ tb_m_train, decode M_m_train.2.1 q.1 = .ok q.2 := by decide +kernel
/-- what train leaves behind -/
def rTr (S : ab_S) (r : lR) (v : Option Value) (w' : ab_H) : Prop := ∃ S', w' = sw S' ∧ mSh S' ∧ sEq [120, 121, 124] S S' ∧ sI S' 120 5 = nI 0 ∧ (match r with
  | .inl e => v = some (.int (-30 - nI e.1)) ∧ mA S' = mA S ∧ sI S' 120 13 = nI e.1 ∧ sI S' 120 14 = nI e.2
  | .inr y => v = some (.int (y.2 0)) ∧ mA S' = (fun j => if j < 1084 then y.2 j else mA S j) ∧ sI S' 120 13 = nI 0 ∧ sI S' 120 14 = -1)
theorem rTr_ok {S : ab_S} {r : lR} {v : Option Value} {w' : ab_H} (h : rTr S r v w') : ∃ x : Int32, v = some (.int x) := by
  obtain ⟨S', -, -, -, -, h⟩ := h
  split at h
  · exact ⟨_, h.1⟩
  · exact ⟨_, h.1⟩
/-- between lines -/
def rT5 (S S1 : ab_S) : Prop := sEq [120, 124] S S1 ∧ sI S1 120 5 = nI 0
theorem rT5.f5 {S S1 S2 : ab_S} (h : rT5 S S1) (g : rF5 S1 S2) : rT5 S S2 := ⟨h.1.tr g.1, (g.2 5 (by omega)).trans h.2⟩
theorem rT5.f {S S1 S2 : ab_S} (h : rT5 S S1) (g : rF S1 S2) : rT5 S S2 := h.f5 (rF5.of g)
theorem c_m_train {G : ab_G} {S : ab_S} (hm : mSh S) (kc : kSh S.1) {tp : Nat → Nat} (hT : rT S tp) {t : Nat} (ht9 : t ≤ 900) (h5 : sI S 120 5 = nI t) (k : Nat) (hk : k ≤ t) : ab_C G 82 M_m_train [.ref 120, .int (nI k)] (sw S) (rTr S (trn tp k (fun j => if j < 1084 then 0 else sI S 124 j))) := by
  refine x_enter [some (.ref 120), some (.int (nI k)), none] (by decide) (Nat.le_of_ble_eq_true rfl) rfl (fun v w' h => by obtain ⟨x, rfl⟩ := rTr_ok h; rfl) ?_
  have dd : ∀ (U : ab_S) (e : Nat × Nat), rT5 S U → rD U e → trn tp k (fun j => if j < 1084 then 0 else sI S 124 j) = .inl e → ab_Ex G 82 M_m_train 85 [some (.ref 120), some (.int (nI k)), none] [] (sw U) (rTr S (trn tp k (fun j => if j < 1084 then 0 else sI S 124 j))) := by
    intro U e uT uD hsp
    have hu := uD.2.2.2
    have hmU : mSh U := uD.1
    refine x_aload_n 86 0 (ab_dd tk_m_train 48 rfl) rfl rfl rfl ?_
    refine t_getI 89 (ab_dd tk_m_train 49 rfl) rfl F_m_143 (by decide) (Nat.lt_of_lt_of_le (by decide) hmU.1) (hmU.2.1 0 (by decide)) rfl (x_topn e.1 uD.2.1 ?_)
    refine x_if_ne_t 112 (ab_dd tk_m_train 50 rfl) (by decide) (fun z => absurd ((nI_eq (a := e.1) (b := 0) (by omega) (by omega)).mp z) (show ¬ (e.1 = 0) by omega)) ?_
    refine x_aload_n 113 0 (ab_dd tk_m_train 60 rfl) rfl rfl rfl ?_
    refine x_aload_n 114 0 (ab_dd tk_m_train 61 rfl) rfl rfl rfl ?_
    refine t_getI 117 (ab_dd tk_m_train 62 rfl) rfl F_m_143 (by decide) (Nat.lt_of_lt_of_le (by decide) hmU.1) (hmU.2.1 0 (by decide)) rfl (x_topn e.1 uD.2.1 ?_)
    refine t_putI 120 (ab_dd tk_m_train 63 rfl) rfl F_m_222 (by decide) (Nat.lt_of_lt_of_le (by decide) hmU.1) (hmU.2.1 0 (by decide)) rfl rfl rfl ?_
    refine x_aload_n 121 0 (ab_dd tk_m_train 64 rfl) rfl rfl rfl ?_
    refine x_aload_n 122 0 (ab_dd tk_m_train 65 rfl) rfl rfl rfl ?_
    refine t_getI 125 (ab_dd tk_m_train 66 rfl) rfl F_m_143 (by decide) (Nat.lt_of_lt_of_le (by decide) hmU.1) (hmU.2.1 0 (by decide)) rfl (x_topn e.1 ((gI_k (by decide)).trans uD.2.1) ?_)
    refine x_if_ne_t 132 (ab_dd tk_m_train 67 rfl) (by decide) (fun z => absurd ((nI_eq (a := e.1) (b := 0) (by omega) (by omega)).mp z) (show ¬ (e.1 = 0) by omega)) ?_
    refine x_aload_n 133 0 (ab_dd tk_m_train 70 rfl) rfl rfl rfl ?_
    refine t_getI 136 (ab_dd tk_m_train 71 rfl) rfl F_m_146 (by decide) (Nat.lt_of_lt_of_le (by decide) hmU.1) (hmU.2.1 0 (by decide)) rfl (x_topn e.2 ((gI_k (by decide)).trans uD.2.2.1) ?_)
    refine t_putI 139 (ab_dd tk_m_train 72 rfl) rfl F_m_27 (by decide) (Nat.lt_of_lt_of_le (by decide) hmU.1) (hmU.2.1 0 (by decide)) rfl rfl rfl ?_
    refine x_aload_n 140 0 (ab_dd tk_m_train 73 rfl) rfl rfl rfl ?_
    refine t_getI 143 (ab_dd tk_m_train 74 rfl) rfl F_m_143 (by decide) (Nat.lt_of_lt_of_le (by decide) hmU.1) (hmU.2.1 0 (by decide)) rfl (x_topn e.1 ((gI_k (by decide)).trans ((gI_k (by decide)).trans uD.2.1)) ?_)
    refine x_if_eq_f 146 (ab_dd tk_m_train 75 rfl) rfl 154 (by decide) (fun z => absurd ((nI_eq (a := e.1) (b := 0) (by omega) (by omega)).mp z) (show ¬ (e.1 = 0) by omega)) ?_
    refine x_bipush 148 (-30) (ab_dd tk_m_train 76 rfl) rfl (by decide) ?_
    refine x_aload_n 149 0 (ab_dd tk_m_train 77 rfl) rfl rfl rfl ?_
    refine t_getI 152 (ab_dd tk_m_train 78 rfl) rfl F_m_143 (by decide) (Nat.lt_of_lt_of_le (by decide) hmU.1) (hmU.2.1 0 (by decide)) rfl (x_topn e.1 ((gI_k (by decide)).trans ((gI_k (by decide)).trans uD.2.1)) ?_)
    refine x_isub 153 (ab_dd tk_m_train 79 rfl) rfl ?_
    exact x_iret (ab_dd tk_m_train 80 rfl) ⟨_, rfl, hmU, (((uT.1.mono (l' := [120, 121, 124]) (by decide)).pI (by decide)).pI (by decide)), ((gI_k (by decide)).trans ((gI_k (by decide)).trans uT.2)), by rw [hsp]; exact ⟨rfl, (gI_o (by decide)).trans ((gI_o (by decide)).trans (uT.1.2.2.1 121 (by decide))), ((gI_k (by decide)).trans gI_s), gI_s⟩⟩
  have ok : ∀ (U : ab_S) (q : Nat) (F : Nat → Int32), rT5 S U → rL U tp k q → tK tp k q = 24 → sI U 124 = F → trn tp k (fun j => if j < 1084 then 0 else sI S 124 j) = .inr (q, F) → ab_Ex G 82 M_m_train 85 [some (.ref 120), some (.int (nI k)), none] [] (sw U) (rTr S (trn tp k (fun j => if j < 1084 then 0 else sI S 124 j))) := by
    intro U q F uT uL h24 uf hsp
    have hmU : mSh U := uL.1
    have cp : ∀ (m i : Nat), i + m = 1084 → ∀ S1 : ab_S, sEq [121] (pI (pI U 120 13 (nI 0)) 120 14 (-1)) S1 → (∀ j, sI S1 121 j = if j < i then F j else sI U 121 j) → ab_Ex G 82 M_m_train 156 [some (.ref 120), some (.int (nI k)), some (.int (nI i))] [] (sw S1) (rTr S (trn tp k (fun j => if j < 1084 then 0 else sI S 124 j))) := by
      intro m
      induction m with
      | zero =>
        intro i hi S1 hE hV
        obtain rfl : i = 1084 := by omega
        have hm1 : mSh S1 := (show mSh (pI (pI U 120 13 (nI 0)) 120 14 (-1)) from hmU).eq hE
        refine x_iload_n 157 2 (ab_dd tk_m_train 83 rfl) rfl rfl rfl ?_
        refine x_sipush 160 1084 (ab_dd tk_m_train 84 rfl) rfl (by decide) (x_topn 1084 rfl ?_)
        refine x_icmp_ge_t 181 (ab_dd tk_m_train 85 rfl) (by decide) ((nI_leI (a := 1084) (b := 1084) (by omega) (by omega)).mpr (show 1084 ≤ 1084 by omega)) ?_
        refine x_aload_n 182 0 (ab_dd tk_m_train 96 rfl) rfl rfl rfl ?_
        refine t_getP 185 121 (ab_dd tk_m_train 97 rfl) rfl F_m_13 (by decide) (Nat.lt_of_lt_of_le (by decide) hm1.1) (hm1.2.1 0 (by decide)) rfl (hm1.2.2 1 (by decide)) ?_
        refine x_iconst 186 0 (ab_dd tk_m_train 98 rfl) rfl (by decide) (x_topn 0 rfl ?_)
        refine t_iald 187 0 (ab_dd tk_m_train 99 rfl) rfl (by decide) (Nat.lt_of_lt_of_le (by decide) hm1.1) (hm1.2.1 1 (by decide)) rfl (by decide) (by decide) ?_
        refine x_iret (ab_dd tk_m_train 100 rfl) ⟨_, rfl, hm1, ((uT.1.mono (l' := [120, 121, 124]) (by decide)).pI (by decide)).pI (by decide) |>.tr (hE.mono (by decide)), ?_, ?_⟩
        · rw [hE.2.2.1 120 (by decide)]; exact (gI_k (by decide)).trans ((gI_k (by decide)).trans uT.2)
        · rw [hsp]
          refine ⟨?_, ?_, ?_, ?_⟩
          · rw [hV 0, if_pos (by decide)]
          · funext j; show sI S1 121 j = _; rw [hV j]; split; (· rfl); (· exact congrFun (uT.1.2.2.1 121 (by decide)) j)
          · rw [hE.2.2.1 120 (by decide)]; exact (gI_k (by decide)).trans gI_s
          · rw [hE.2.2.1 120 (by decide)]; exact gI_s
      | succ m ih =>
        intro i hi S1 hE hV
        have hm1 : mSh S1 := (show mSh (pI (pI U 120 13 (nI 0)) 120 14 (-1)) from hmU).eq hE
        have hf4 : sI S1 124 i = F i := by rw [hE.2.2.1 124 (by decide), ← uf]; rfl
        refine x_iload_n 157 2 (ab_dd tk_m_train 83 rfl) rfl rfl rfl ?_
        refine x_sipush 160 1084 (ab_dd tk_m_train 84 rfl) rfl (by decide) (x_topn 1084 rfl ?_)
        refine x_icmp_ge_f 163 (ab_dd tk_m_train 85 rfl) rfl 181 (by decide) (fun z => absurd ((nI_leI (a := 1084) (b := i) (by omega) (by omega)).mp z) (show ¬ (1084 ≤ i) by omega)) ?_
        refine x_aload_n 164 0 (ab_dd tk_m_train 86 rfl) rfl rfl rfl ?_
        refine t_getP 167 121 (ab_dd tk_m_train 87 rfl) rfl F_m_13 (by decide) (Nat.lt_of_lt_of_le (by decide) hm1.1) (hm1.2.1 0 (by decide)) rfl (hm1.2.2 1 (by decide)) ?_
        refine x_iload_n 168 2 (ab_dd tk_m_train 88 rfl) rfl rfl rfl ?_
        refine x_aload_n 169 0 (ab_dd tk_m_train 89 rfl) rfl rfl rfl ?_
        refine t_getP 172 124 (ab_dd tk_m_train 90 rfl) rfl F_m_24 (by decide) (Nat.lt_of_lt_of_le (by decide) hm1.1) (hm1.2.1 0 (by decide)) rfl (hm1.2.2 4 (by decide)) ?_
        refine x_iload_n 173 2 (ab_dd tk_m_train 91 rfl) rfl rfl rfl ?_
        refine t_iald 174 i (ab_dd tk_m_train 92 rfl) rfl (by decide) (Nat.lt_of_lt_of_le (by decide) hm1.1) (hm1.2.1 4 (by decide)) rfl (by omega) (by decide) (x_topx (F i) hf4 ?_)
        refine t_iast 175 i (ab_dd tk_m_train 93 rfl) rfl (by decide) (Nat.lt_of_lt_of_le (by decide) hm1.1) (hm1.2.1 1 (by decide)) rfl (by omega) (by decide) ?_
        refine xn_iinc 178 2 (fun y => [some (.ref 120), some (.int (nI k)), some (.int y)]) (i + 1) (ab_dd tk_m_train 94 rfl) rfl (by decide) rfl (fun _ => rfl) (iinc_p 1) ?_
        refine x_goto 156 (ab_dd tk_m_train 95 rfl) (by decide) ?_
        refine ih (i + 1) (by omega) _ (hE.pI (by decide)) (fun j => ?_)
        by_cases hj : j = i
        · rw [hj, if_pos (by omega)]; exact gI_s
        · rw [gI_k hj, hV j]
          by_cases h1 : j < i
          · rw [if_pos h1, if_pos (by omega)]
          · rw [if_neg h1, if_neg (by omega)]
    refine x_aload_n 86 0 (ab_dd tk_m_train 48 rfl) rfl rfl rfl ?_
    refine t_getI 89 (ab_dd tk_m_train 49 rfl) rfl F_m_143 (by decide) (Nat.lt_of_lt_of_le (by decide) hmU.1) (hmU.2.1 0 (by decide)) rfl (x_topn 0 uL.2.2.2.2.2.2.2 ?_)
    refine x_if_ne_f 92 (ab_dd tk_m_train 50 rfl) rfl 112 (by decide) ((nI_eq (a := 0) (b := 0) (by omega) (by omega)).mpr (show 0 = 0 by omega)) ?_
    refine x_aload_n 93 0 (ab_dd tk_m_train 51 rfl) rfl rfl rfl ?_
    refine t_getI 96 (ab_dd tk_m_train 52 rfl) rfl F_m_125 (by decide) (Nat.lt_of_lt_of_le (by decide) hmU.1) (hmU.2.1 0 (by decide)) rfl (x_topn (tK tp k q) uL.2.2.2.2.2.2.1.2.2.1 ?_)
    refine x_bipush 98 24 (ab_dd tk_m_train 53 rfl) rfl (by decide) (x_topn 24 rfl ?_)
    refine x_icmp_eq_t 112 (ab_dd tk_m_train 54 rfl) (by decide) ((nI_eq (a := (tK tp k q)) (b := 24) (by omega) (by omega)).mpr (show (tK tp k q) = 24 by omega)) ?_
    refine x_aload_n 113 0 (ab_dd tk_m_train 60 rfl) rfl rfl rfl ?_
    refine x_aload_n 114 0 (ab_dd tk_m_train 61 rfl) rfl rfl rfl ?_
    refine t_getI 117 (ab_dd tk_m_train 62 rfl) rfl F_m_143 (by decide) (Nat.lt_of_lt_of_le (by decide) hmU.1) (hmU.2.1 0 (by decide)) rfl (x_topn 0 uL.2.2.2.2.2.2.2 ?_)
    refine t_putI 120 (ab_dd tk_m_train 63 rfl) rfl F_m_222 (by decide) (Nat.lt_of_lt_of_le (by decide) hmU.1) (hmU.2.1 0 (by decide)) rfl rfl rfl ?_
    refine x_aload_n 121 0 (ab_dd tk_m_train 64 rfl) rfl rfl rfl ?_
    refine x_aload_n 122 0 (ab_dd tk_m_train 65 rfl) rfl rfl rfl ?_
    refine t_getI 125 (ab_dd tk_m_train 66 rfl) rfl F_m_143 (by decide) (Nat.lt_of_lt_of_le (by decide) hmU.1) (hmU.2.1 0 (by decide)) rfl (x_topn 0 ((gI_k (by decide)).trans uL.2.2.2.2.2.2.2) ?_)
    refine x_if_ne_f 128 (ab_dd tk_m_train 67 rfl) rfl 132 (by decide) ((nI_eq (a := 0) (b := 0) (by omega) (by omega)).mpr (show 0 = 0 by omega)) ?_
    refine x_iconst 129 (-1) (ab_dd tk_m_train 68 rfl) rfl (by decide) ?_
    refine x_goto 136 (ab_dd tk_m_train 69 rfl) (by decide) ?_
    refine t_putI 139 (ab_dd tk_m_train 72 rfl) rfl F_m_27 (by decide) (Nat.lt_of_lt_of_le (by decide) hmU.1) (hmU.2.1 0 (by decide)) rfl rfl rfl ?_
    refine x_aload_n 140 0 (ab_dd tk_m_train 73 rfl) rfl rfl rfl ?_
    refine t_getI 143 (ab_dd tk_m_train 74 rfl) rfl F_m_143 (by decide) (Nat.lt_of_lt_of_le (by decide) hmU.1) (hmU.2.1 0 (by decide)) rfl (x_topn 0 ((gI_k (by decide)).trans ((gI_k (by decide)).trans uL.2.2.2.2.2.2.2)) ?_)
    refine x_if_eq_t 154 (ab_dd tk_m_train 75 rfl) (by decide) ((nI_eq (a := 0) (b := 0) (by omega) (by omega)).mpr (show 0 = 0 by omega)) ?_
    refine x_iconst 155 0 (ab_dd tk_m_train 81 rfl) rfl (by decide) (x_topn 0 rfl ?_)
    refine x_istore_n 156 [some (.ref 120), some (.int (nI k)), some (.int (nI 0))] 2 (ab_dd tk_m_train 82 rfl) rfl rfl (by decide) rfl ?_
    exact cp 1084 0 (by omega) _ sEq.rf (fun j => by rw [if_neg (Nat.not_lt_zero j)]; rfl)
  have lp : ∀ g (U : ab_S) (q : Nat) (F : Nat → Int32), rT5 S U → rL U tp k q → sI U 124 = F → rwI q F → k - q < g → trn tp k (fun j => if j < 1084 then 0 else sI S 124 j) = trL tp k g q F → ab_Ex G 82 M_m_train 85 [some (.ref 120), some (.int (nI k)), none] [] (sw U) (rTr S (trn tp k (fun j => if j < 1084 then 0 else sI S 124 j))) := by
    intro g
    induction g with
    | zero => intro U q F _ _ _ _ z; exact absurd z (by omega)
    | succ g ih =>
      intro U q F uT uL uf hI hg hsp
      have hq := uL.2.2.2.2.2.1
      have hq42 := tK_lt tp k q
      have hun : trL tp k (g + 1) q F = if tK tp k q = 24 then .inr (q, F) else lB (lnr tp k q F) (fun q F => lB (cls tp k q F) (fun q F => trL tp k g q F)) := rfl
      rw [hun] at hsp
      by_cases h24 : tK tp k q = 24
      · rw [if_pos h24] at hsp
        exact ok U q F uT uL h24 uf hsp
      · rw [if_neg h24] at hsp
        refine x_aload_n 86 0 (ab_dd tk_m_train 48 rfl) rfl rfl rfl ?_
        refine t_getI 89 (ab_dd tk_m_train 49 rfl) rfl F_m_143 (by decide) (Nat.lt_of_lt_of_le (by decide) uL.1.1) (uL.1.2.1 0 (by decide)) rfl (x_topn 0 uL.2.2.2.2.2.2.2 ?_)
        refine x_if_ne_f 92 (ab_dd tk_m_train 50 rfl) rfl 112 (by decide) ((nI_eq (a := 0) (b := 0) (by omega) (by omega)).mpr (show 0 = 0 by omega)) ?_
        refine x_aload_n 93 0 (ab_dd tk_m_train 51 rfl) rfl rfl rfl ?_
        refine t_getI 96 (ab_dd tk_m_train 52 rfl) rfl F_m_125 (by decide) (Nat.lt_of_lt_of_le (by decide) uL.1.1) (uL.1.2.1 0 (by decide)) rfl (x_topn (tK tp k q) uL.2.2.2.2.2.2.1.2.2.1 ?_)
        refine x_bipush 98 24 (ab_dd tk_m_train 53 rfl) rfl (by decide) (x_topn 24 rfl ?_)
        refine x_icmp_eq_f 101 (ab_dd tk_m_train 54 rfl) rfl 112 (by decide) (fun z => absurd ((nI_eq (a := (tK tp k q)) (b := 24) (by omega) (by omega)).mp z) (show ¬ ((tK tp k q) = 24) by omega)) ?_
        refine x_aload_n 102 0 (ab_dd tk_m_train 55 rfl) rfl rfl rfl ?_
        refine t_callV 105 M_m_readLine 81 0 [] (ab_dd tk_m_train 56 rfl) rfl (by first | decide | omega) K_m_readLine V_m_readLine.1 V_m_readLine.2 L_m_219 rfl (Nat.le_of_ble_eq_true rfl) (by decide) (Nat.lt_of_lt_of_le (by decide) uL.1.1) (uL.1.2.1 0 (by decide)) rfl (L_readLine uL (by rw [uf]; exact hI)) (fun v1 w1 h1 => ?_)
        obtain ⟨rfl, U1, rfl, uF1, uO1⟩ := h1
        rw [uf] at uO1
        rcases hX : lnr tp k q F with e1 | ⟨q1, F1⟩
        · rw [hX] at uO1
          have uD1 : rD U1 e1 := uO1
          rw [hX] at hsp
          have hu1 := uD1.2.2.2
          refine x_aload_n 106 0 (ab_dd tk_m_train 57 rfl) rfl rfl rfl ?_
          refine t_callV 109 M_m_closes 7 0 [] (ab_dd tk_m_train 58 rfl) rfl (by first | decide | omega) K_m_closes V_m_closes.1 V_m_closes.2 L_m_216 rfl (Nat.le_of_ble_eq_true rfl) (by decide) (Nat.lt_of_lt_of_le (by decide) uD1.1.1) (uD1.1.2.1 0 (by decide)) rfl (D_closes uD1) (fun v1 w1 h1 => ?_)
          obtain ⟨rfl, U2, rfl, uF2, uD2⟩ := h1
          refine x_goto 85 (ab_dd tk_m_train 59 rfl) (by decide) ?_
          exact dd _ _ ((uT.f5 uF1).f uF2) uD2 hsp
        · rw [hX] at uO1
          have uL1 : rL U1 tp k q1 := uO1.1
          have uf1 : sI U1 124 = F1 := uO1.2
          rw [hX, lB_r] at hsp
          have hg1 := lnr_g (by omega) hq hI hX
          refine x_aload_n 106 0 (ab_dd tk_m_train 57 rfl) rfl rfl rfl ?_
          refine t_callV 109 M_m_closes 7 0 [] (ab_dd tk_m_train 58 rfl) rfl (by first | decide | omega) K_m_closes V_m_closes.1 V_m_closes.2 L_m_216 rfl (Nat.le_of_ble_eq_true rfl) (by decide) (Nat.lt_of_lt_of_le (by decide) uL1.1.1) (uL1.1.2.1 0 (by decide)) rfl (L_closes uL1) (fun v1 w1 h1 => ?_)
          obtain ⟨rfl, U2, rfl, uF2, uO2⟩ := h1
          rw [uf1] at uO2
          rcases hY : cls tp k q1 F1 with e2 | ⟨q2, F2⟩
          · rw [hY] at uO2
            have uD2 : rD U2 e2 := uO2
            rw [hY] at hsp
            refine x_goto 85 (ab_dd tk_m_train 59 rfl) (by decide) ?_
            exact dd _ _ ((uT.f5 uF1).f uF2) uD2 hsp
          · rw [hY] at uO2
            have uL2 : rL U2 tp k q2 := uO2.1
            have uf2 : sI U2 124 = F2 := uO2.2
            rw [hY, lB_r] at hsp
            have hg2 := cls_g hg1.2.1 hY
            refine x_goto 85 (ab_dd tk_m_train 59 rfl) (by decide) ?_
            exact ih _ _ _ ((uT.f5 uF1).f uF2) uL2 uf2 (by rw [hg2.2.2.2.2]; exact hg1.2.2.up (by omega) (by decide) (by decide)) (by omega) hsp
  refine x_aload_n 1 0 (ab_dd tk_m_train 0 rfl) rfl rfl rfl ?_
  refine x_iconst 2 0 (ab_dd tk_m_train 1 rfl) rfl (by decide) (x_topn 0 rfl ?_)
  refine t_putI 5 (ab_dd tk_m_train 2 rfl) rfl F_m_1 (by decide) (Nat.lt_of_lt_of_le (by decide) hm.1) (hm.2.1 0 (by decide)) rfl rfl rfl ?_
  refine x_iload_n 6 1 (ab_dd tk_m_train 3 rfl) rfl rfl rfl ?_
  refine x_i2l 7 (ab_dd tk_m_train 4 rfl) rfl (x_topL (lN k) (nI_l (by omega)) ?_)
  refine x_lconst 8 0 (ab_dd tk_m_train 5 rfl) rfl (by decide) ?_
  refine x_aload_n 9 0 (ab_dd tk_m_train 6 rfl) rfl rfl rfl ?_
  refine t_getI 12 (ab_dd tk_m_train 7 rfl) rfl F_m_97 (by decide) (Nat.lt_of_lt_of_le (by decide) hm.1) (hm.2.1 0 (by decide)) rfl (x_topn t ((gI_k (by decide)).trans h5) ?_)
  refine x_i2l 13 (ab_dd tk_m_train 8 rfl) rfl (x_topL (lN t) (nI_l (by omega)) ?_)
  refine x_callS 16 M_m_within 0 3 [_, _, _] (ab_dd tk_m_train 9 rfl) rfl (by first | decide | omega) K_m_within T_m_within L_m_159 rfl (Nat.le_of_ble_eq_true rfl) (w_inN 0 t k rfl rfl (by decide) (by omega) (by omega)) (fun v1 w1 h1 => ?_)
  obtain ⟨rfl, rfl⟩ := h1
  refine x_if_ne_t 22 (ab_dd tk_m_train 10 rfl) (by decide) (by rw [if_pos ⟨Nat.zero_le _, hk⟩]; decide) ?_
  refine x_aload_n 23 0 (ab_dd tk_m_train 13 rfl) rfl rfl rfl ?_
  refine x_iload_n 24 1 (ab_dd tk_m_train 14 rfl) rfl rfl rfl ?_
  refine t_putI 27 (ab_dd tk_m_train 15 rfl) rfl F_m_100 (by decide) (Nat.lt_of_lt_of_le (by decide) hm.1) (hm.2.1 0 (by decide)) rfl rfl rfl ?_
  refine x_aload_n 28 0 (ab_dd tk_m_train 16 rfl) rfl rfl rfl ?_
  refine x_iconst 29 0 (ab_dd tk_m_train 17 rfl) rfl (by decide) (x_topn 0 rfl ?_)
  refine t_putI 32 (ab_dd tk_m_train 18 rfl) rfl F_m_97 (by decide) (Nat.lt_of_lt_of_le (by decide) hm.1) (hm.2.1 0 (by decide)) rfl rfl rfl ?_
  refine x_aload_n 33 0 (ab_dd tk_m_train 19 rfl) rfl rfl rfl ?_
  refine x_iconst 34 0 (ab_dd tk_m_train 20 rfl) rfl (by decide) (x_topn 0 rfl ?_)
  refine t_putI 37 (ab_dd tk_m_train 21 rfl) rfl F_m_118 (by decide) (Nat.lt_of_lt_of_le (by decide) hm.1) (hm.2.1 0 (by decide)) rfl rfl rfl ?_
  refine x_aload_n 38 0 (ab_dd tk_m_train 22 rfl) rfl rfl rfl ?_
  refine x_iconst 39 0 (ab_dd tk_m_train 23 rfl) rfl (by decide) (x_topn 0 rfl ?_)
  refine t_putI 42 (ab_dd tk_m_train 24 rfl) rfl F_m_143 (by decide) (Nat.lt_of_lt_of_le (by decide) hm.1) (hm.2.1 0 (by decide)) rfl rfl rfl ?_
  refine x_aload_n 43 0 (ab_dd tk_m_train 25 rfl) rfl rfl rfl ?_
  refine t_getP 46 124 (ab_dd tk_m_train 26 rfl) rfl F_m_24 (by decide) (Nat.lt_of_lt_of_le (by decide) hm.1) (hm.2.1 0 (by decide)) rfl (hm.2.2 4 (by decide)) ?_
  refine x_callS 49 M_m_plain 0 1 [_] (ab_dd tk_m_train 27 rfl) rfl (by first | decide | omega) K_m_plain T_m_plain L_m_93 rfl (Nat.le_of_ble_eq_true rfl) (c_m_plain4 (by exact hm)) (fun v1 w1 h1 => ?_)
  obtain ⟨rfl, U1, rfl, uE1, uf1⟩ := h1
  have um1 : mSh U1 := mSh.eq (by exact hm) uE1
  have hv5 : sI U1 120 5 = nI 0 := (congrFun (uE1.2.2.1 120 (by decide)) 5).trans ((gI_k (by decide)).trans ((gI_k (by decide)).trans gI_s))
  have hv7 : sI U1 120 7 = nI 0 := (congrFun (uE1.2.2.1 120 (by decide)) 7).trans ((gI_k (by decide)).trans gI_s)
  have hv11 : sI U1 120 11 = nI 0 := (congrFun (uE1.2.2.1 120 (by decide)) 11).trans gI_s
  have hv8 : sI U1 120 8 = nI k := (congrFun (uE1.2.2.1 120 (by decide)) 8).trans ((gI_k (by decide)).trans ((gI_k (by decide)).trans ((gI_k (by decide)).trans gI_s)))
  have uT1 : rT5 S U1 := ⟨(((((((sEq.rf (l := [120, 124])).pI (by decide)).pI (by decide)).pI (by decide)).pI (by decide)).pI (by decide))).tr (uE1.mono (by decide)), hv5⟩
  have hT1 : rT U1 tp := rT.eq (by exact (rT.pI (rT.pI (rT.pI (rT.pI (rT.pI hT (by decide)) (by decide)) (by decide)) (by decide)) (by decide))) uE1 (by decide)
  have uf1b : sI U1 124 = (fun j => if j < 1084 then 0 else sI S 124 j) := by rw [uf1]; rfl
  refine x_aload_n 50 0 (ab_dd tk_m_train 28 rfl) rfl rfl rfl ?_
  refine t_callV 53 M_m_next 5 0 [] (ab_dd tk_m_train 29 rfl) rfl (by first | decide | omega) K_m_next V_m_next.1 V_m_next.2 L_m_152 rfl (Nat.le_of_ble_eq_true rfl) (by decide) (Nat.lt_of_lt_of_le (by decide) um1.1) (um1.2.1 0 (by decide)) rfl (c_m_next um1 (by rw [uT1.1.1]; exact kc) hT1 (by omega) hv8 0 (by omega) hv7) (fun v1 w1 h1 => ?_)
  obtain ⟨rfl, U2, rfl, uE2, ut2, uF2⟩ := h1
  have um2 : mSh U2 := um1.eq uE2
  have uT2 : rT5 S U2 := ⟨uT1.1.tr (uE2.mono (by decide)), (uF2 5 (by omega)).trans hv5⟩
  have uf2 : sI U2 124 = (fun j => if j < 1084 then 0 else sI S 124 j) := (uE2.2.2.1 124 (by decide)).trans uf1b
  have uL2 : rL U2 tp k 0 := ⟨um2, by rw [uT2.1.1]; exact kc, hT1.eq uE2 (by decide), by omega, (uF2 8 (by omega)).trans hv8, by omega, ut2, (uF2 11 (by omega)).trans hv11⟩
  refine x_aload_n 54 0 (ab_dd tk_m_train 30 rfl) rfl rfl rfl ?_
  refine x_iconst 55 0 (ab_dd tk_m_train 31 rfl) rfl (by decide) (x_topn 0 rfl ?_)
  refine t_callV 58 M_m_eats 6 1 [_] (ab_dd tk_m_train 32 rfl) rfl (by first | decide | omega) K_m_eats V_m_eats.1 V_m_eats.2 L_m_178 rfl (Nat.le_of_ble_eq_true rfl) (by decide) (Nat.lt_of_lt_of_le (by decide) uL2.1.1) (uL2.1.2.1 0 (by decide)) rfl (L_eats uL2 0 (by decide) (by decide)) (fun v1 w1 h1 => ?_)
  rcases h1 with ⟨hk1, rfl, U1, rfl, uF1, uC1, uL1⟩ | ⟨hk1, rfl, rfl⟩
  · have ht1 := tE_g uL2.2.2.2.2.2.1 (show tK tp k 0 ≠ 24 by omega)
    refine x_if_ne_t 66 (ab_dd tk_m_train 33 rfl) (by decide) (by decide) ?_
    refine x_aload_n 67 0 (ab_dd tk_m_train 37 rfl) rfl rfl rfl ?_
    refine t_getP 70 124 (ab_dd tk_m_train 38 rfl) rfl F_m_24 (by decide) (Nat.lt_of_lt_of_le (by decide) uL1.1.1) (uL1.1.2.1 0 (by decide)) rfl (uL1.1.2.2 4 (by decide)) ?_
    refine x_bipush 72 40 (ab_dd tk_m_train 39 rfl) rfl (by decide) (x_topn 40 rfl ?_)
    refine x_aload_n 73 0 (ab_dd tk_m_train 40 rfl) rfl rfl rfl ?_
    refine x_iconst 74 1 (ab_dd tk_m_train 41 rfl) rfl (by decide) (x_topn 1 rfl ?_)
    refine x_iconst 75 0 (ab_dd tk_m_train 42 rfl) rfl (by decide) (x_topn 0 rfl ?_)
    refine x_bipush 77 9 (ab_dd tk_m_train 43 rfl) rfl (by decide) (x_topn 9 rfl ?_)
    refine t_callV 80 M_m_named 7 3 [_, _, _] (ab_dd tk_m_train 44 rfl) rfl (by first | decide | omega) K_m_named V_m_named.1 V_m_named.2 L_m_203 rfl (Nat.le_of_ble_eq_true rfl) (by decide) (Nat.lt_of_lt_of_le (by decide) uL1.1.1) (uL1.1.2.1 0 (by decide)) rfl (L_named uL1 1 9 (by decide) (by decide) (by decide)) (fun v1 w1 h1 => ?_)
    obtain ⟨U2, rfl, uF2, uC2, uO2⟩ := h1
    rcases hX2 : xM tp k 1 9 (tE tp k 0) with e2 | ⟨q2, v2⟩
    · rw [hX2] at uO2
      obtain ⟨uD2, x2, rfl⟩ := uO2
      have hu2 := uD2.2.2.2
      refine t_iast 81 40 (ab_dd tk_m_train 45 rfl) rfl (by decide) (Nat.lt_of_lt_of_le (by decide) uD2.1.1) (uD2.1.2.1 4 (by decide)) rfl (by decide) (by decide) ?_
      refine x_aload_n 82 0 (ab_dd tk_m_train 46 rfl) rfl rfl rfl ?_
      refine t_callV 85 M_m_closes 7 0 [] (ab_dd tk_m_train 47 rfl) rfl (by first | decide | omega) K_m_closes V_m_closes.1 V_m_closes.2 L_m_216 rfl (Nat.le_of_ble_eq_true rfl) (by decide) (Nat.lt_of_lt_of_le (by decide) uD2.1.1) (uD2.1.2.1 0 (by decide)) rfl (D_closes (by exact (rD.p4 uD2))) (fun v1 w1 h1 => ?_)
      obtain ⟨rfl, U3, rfl, uF3, uD3⟩ := h1
      have hsp : trn tp k (fun j => if j < 1084 then 0 else sI S 124 j) = .inl (e2) := by
        unfold trn wX
        rw [if_pos hk1]
        try dsimp only
        rw [hX2]
        try rfl
      exact dd _ _ (uT2.f (rF.tr rF.rf ((rF.p4 ((rF.rf.tr uF1).tr uF2)).tr uF3))) uD3 hsp
    · rw [hX2] at uO2
      obtain ⟨rfl, uL2, uH2⟩ := uO2
      have hg2 := xM_g (by decide) uL1.2.2.2.2.2.1 hX2
      refine t_iast 81 40 (ab_dd tk_m_train 45 rfl) rfl (by decide) (Nat.lt_of_lt_of_le (by decide) uL2.1.1) (uL2.1.2.1 4 (by decide)) rfl (by decide) (by decide) ?_
      refine x_aload_n 82 0 (ab_dd tk_m_train 46 rfl) rfl rfl rfl ?_
      refine t_callV 85 M_m_closes 7 0 [] (ab_dd tk_m_train 47 rfl) rfl (by first | decide | omega) K_m_closes V_m_closes.1 V_m_closes.2 L_m_216 rfl (Nat.le_of_ble_eq_true rfl) (by decide) (Nat.lt_of_lt_of_le (by decide) uL2.1.1) (uL2.1.2.1 0 (by decide)) rfl (L_closes (by exact (rL.p4 uL2))) (fun v1 w1 h1 => ?_)
      obtain ⟨rfl, U9, rfl, uF9, uO9⟩ := h1
      rw [show sI _ 124 = (up1 (fun j => if j < 1084 then 0 else sI S 124 j) (40) (nI v2)) from (row_up 40 (nI v2) (uC2.trans (uC1.trans uf2)))] at uO9
      rcases hY : cls tp k q2 (up1 (fun j => if j < 1084 then 0 else sI S 124 j) (40) (nI v2)) with e9 | ⟨q9, F9⟩
      · rw [hY] at uO9
        have uD9 : rD U9 e9 := uO9
        have hsp : trn tp k (fun j => if j < 1084 then 0 else sI S 124 j) = .inl (e9) := by
          unfold trn wX
          rw [if_pos hk1]
          try dsimp only
          rw [hX2, bN_r]
          try dsimp only
          rw [hY]
          try rfl
        exact dd _ _ (uT2.f (rF.tr rF.rf ((rF.p4 ((rF.rf.tr uF1).tr uF2)).tr uF9))) uD9 hsp
      · rw [hY] at uO9
        have uL9 : rL U9 tp k q9 := uO9.1
        have uf9 : sI U9 124 = F9 := uO9.2
        have hg9 := cls_g uL2.2.2.2.2.2.1 hY
        have hsp : trn tp k (fun j => if j < 1084 then 0 else sI S 124 j) = trL tp k 1000 q9 F9 := by
          unfold trn wX
          rw [if_pos hk1]
          try dsimp only
          rw [hX2, bN_r]
          try dsimp only
          rw [hY, lB_r]
          try rfl
        exact lp 1000 _ _ _ (uT2.f (rF.tr rF.rf ((rF.p4 ((rF.rf.tr uF1).tr uF2)).tr uF9))) uL9 uf9 (by rw [hg9.2.2.2.2]; exact (rwI.up (p := 0) ⟨0, 0, by decide, (up1_o (by decide)).trans (if_pos (by decide)), (up1_o (by decide)).trans (if_pos (by decide)), Nat.le_refl _⟩ (by omega) (by decide) (by decide))) (by omega) hsp
  · skip
    refine x_if_ne_f 61 (ab_dd tk_m_train 33 rfl) rfl 66 (by decide) (by decide) ?_
    refine x_aload_n 62 0 (ab_dd tk_m_train 34 rfl) rfl rfl rfl ?_
    refine x_iconst 63 2 (ab_dd tk_m_train 35 rfl) rfl (by decide) (x_topn 2 rfl ?_)
    refine t_callV 66 M_m_fails 0 1 [_] (ab_dd tk_m_train 36 rfl) rfl (by first | decide | omega) K_m_fails V_m_fails.1 V_m_fails.2 L_m_155 rfl (Nat.le_of_ble_eq_true rfl) (by decide) (Nat.lt_of_lt_of_le (by decide) uL2.1.1) (uL2.1.2.1 0 (by decide)) rfl (L_fails uL2 2 (by decide) (by decide)) (fun v1 w1 h1 => ?_)
    obtain ⟨rfl, U4, rfl, uF4, uQ4, uD4⟩ := h1
    have hu4 := uD4.2.2.2
    refine x_aload_n 67 0 (ab_dd tk_m_train 37 rfl) rfl rfl rfl ?_
    refine t_getP 70 124 (ab_dd tk_m_train 38 rfl) rfl F_m_24 (by decide) (Nat.lt_of_lt_of_le (by decide) uD4.1.1) (uD4.1.2.1 0 (by decide)) rfl (uD4.1.2.2 4 (by decide)) ?_
    refine x_bipush 72 40 (ab_dd tk_m_train 39 rfl) rfl (by decide) (x_topn 40 rfl ?_)
    refine x_aload_n 73 0 (ab_dd tk_m_train 40 rfl) rfl rfl rfl ?_
    refine x_iconst 74 1 (ab_dd tk_m_train 41 rfl) rfl (by decide) (x_topn 1 rfl ?_)
    refine x_iconst 75 0 (ab_dd tk_m_train 42 rfl) rfl (by decide) (x_topn 0 rfl ?_)
    refine x_bipush 77 9 (ab_dd tk_m_train 43 rfl) rfl (by decide) (x_topn 9 rfl ?_)
    refine t_callV 80 M_m_named 7 3 [_, _, _] (ab_dd tk_m_train 44 rfl) rfl (by first | decide | omega) K_m_named V_m_named.1 V_m_named.2 L_m_203 rfl (Nat.le_of_ble_eq_true rfl) (by decide) (Nat.lt_of_lt_of_le (by decide) uD4.1.1) (uD4.1.2.1 0 (by decide)) rfl (D_named uD4 _ _ _) (fun v1 w1 h1 => ?_)
    obtain ⟨⟨x5, rfl⟩, rfl⟩ := h1
    refine t_iast 81 40 (ab_dd tk_m_train 45 rfl) rfl (by decide) (Nat.lt_of_lt_of_le (by decide) uD4.1.1) (uD4.1.2.1 4 (by decide)) rfl (by decide) (by decide) ?_
    refine x_aload_n 82 0 (ab_dd tk_m_train 46 rfl) rfl rfl rfl ?_
    refine t_callV 85 M_m_closes 7 0 [] (ab_dd tk_m_train 47 rfl) rfl (by first | decide | omega) K_m_closes V_m_closes.1 V_m_closes.2 L_m_216 rfl (Nat.le_of_ble_eq_true rfl) (by decide) (Nat.lt_of_lt_of_le (by decide) uD4.1.1) (uD4.1.2.1 0 (by decide)) rfl (D_closes (by exact (rD.p4 uD4))) (fun v1 w1 h1 => ?_)
    obtain ⟨rfl, U6, rfl, uF6, uD6⟩ := h1
    have hsp : trn tp k (fun j => if j < 1084 then 0 else sI S 124 j) = .inl (pE tp k 0 2) := by
      unfold trn wX
      rw [if_neg hk1]
      try rfl
    exact dd _ _ (uT2.f (rF.tr rF.rf ((rF.p4 (rF.rf.tr uF4)).tr uF6))) uD6 hsp
theorem c_m_trainN {G : ab_G} {S : ab_S} (hm : mSh S) {t : Nat} (ht9 : t ≤ 900) (h5 : sI S 120 5 = nI t) (x : Int32) (hx : ¬ (0 ≤ x ∧ x ≤ nI t)) : ab_C G 82 M_m_train [.ref 120, .int x] (sw S) (fun v w' => v = some (.int (-3)) ∧ w' = sw (m0 S)) := by
  refine x_enter [some (.ref 120), some (.int x), none] (by decide) (Nat.le_of_ble_eq_true rfl) rfl (fun v w' h => by obtain ⟨rfl, rfl⟩ := h; rfl) ?_
  refine x_aload_n 1 0 (ab_dd tk_m_train 0 rfl) rfl rfl rfl ?_
  refine x_iconst 2 0 (ab_dd tk_m_train 1 rfl) rfl (by decide) (x_topn 0 rfl ?_)
  refine t_putI 5 (ab_dd tk_m_train 2 rfl) rfl F_m_1 (by decide) (Nat.lt_of_lt_of_le (by decide) hm.1) (hm.2.1 0 (by decide)) rfl rfl rfl ?_
  refine x_iload_n 6 1 (ab_dd tk_m_train 3 rfl) rfl rfl rfl ?_
  refine x_i2l 7 (ab_dd tk_m_train 4 rfl) rfl ?_
  refine x_lconst 8 0 (ab_dd tk_m_train 5 rfl) rfl (by decide) ?_
  refine x_aload_n 9 0 (ab_dd tk_m_train 6 rfl) rfl rfl rfl ?_
  refine t_getI 12 (ab_dd tk_m_train 7 rfl) rfl F_m_97 (by decide) (Nat.lt_of_lt_of_le (by decide) hm.1) (hm.2.1 0 (by decide)) rfl (x_topn t ((gI_k (by decide)).trans h5) ?_)
  refine x_i2l 13 (ab_dd tk_m_train 8 rfl) rfl ?_
  refine x_callS 16 M_m_within 0 3 [_, _, _] (ab_dd tk_m_train 9 rfl) rfl (by first | decide | omega) K_m_within T_m_within L_m_159 rfl (Nat.le_of_ble_eq_true rfl) (w_inI 0 (nI t) rfl rfl x) (fun v1 w1 h1 => ?_)
  obtain ⟨rfl, rfl⟩ := h1
  refine x_if_ne_f 19 (ab_dd tk_m_train 10 rfl) rfl 22 (by decide) (by rw [if_neg hx]) ?_
  refine x_bipush 21 (-3) (ab_dd tk_m_train 11 rfl) rfl (by decide) ?_
  exact x_iret (ab_dd tk_m_train 12 rfl) ⟨rfl, rfl⟩
