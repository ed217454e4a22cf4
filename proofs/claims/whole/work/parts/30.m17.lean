/-! ===== give, rug, month, undo of the reference ===== -/
def tb_m_areTwo : List (Nat × Instr × Nat) := [(0, .aload_n 0, 1), (1, .lload_n 1, 1), (2, .invokevirtual 258, 3), (5, .ifCond .eq 21, 3), (8, .aload_n 0, 1), (9, .lload_n 3, 1), (10, .invokevirtual 258, 3), (13, .ifCond .eq 13, 3), (16, .lload_n 1, 1), (17, .lload_n 3, 1), (18, .lcmp, 1), (19, .ifCond .eq 7, 3), (22, .iconst 1, 1), (23, .goto 4, 3), (26, .iconst 0, 1), (27, .ireturn, 1)]
theorem tk_m_areTwo : ∀ q ∈ tb_m_areTwo, decode M_m_areTwo.2.1 q.1 = .ok q.2 := by decide +kernel
theorem c_m_areTwo {G : ab_G} {S : ab_S} (hm : mSh S) (x y : Int64) : ab_C G 2 M_m_areTwo [.ref 120, .long x, .long y] (sw S) (fun v w' => v = some (.int (if (0 ≤ x ∧ x ≤ (mA S 1 - 1).toInt64) ∧ (0 ≤ y ∧ y ≤ (mA S 1 - 1).toInt64) ∧ ¬ x = y then 1 else 0)) ∧ w' = sw S) := by
  refine x_enter [some (.ref 120), some (.long x), none, some (.long y), none] (by decide) (Nat.le_of_ble_eq_true rfl) rfl (fun v w' h => by obtain ⟨rfl, rfl⟩ := h; show narrow _ _ = _; split <;> rfl) ?_
  refine x_aload_n 1 0 (ab_dd tk_m_areTwo 0 rfl) rfl rfl rfl ?_
  refine x_lload_n 2 1 (ab_dd tk_m_areTwo 1 rfl) rfl rfl rfl ?_
  refine t_callV 5 M_m_isRider 1 1 [_] (ab_dd tk_m_areTwo 2 rfl) rfl (by decide) K_m_isRider V_m_isRider.1 V_m_isRider.2 L_m_258 rfl (Nat.le_of_ble_eq_true rfl) (by decide) (Nat.lt_of_lt_of_le (by decide) hm.1) (hm.2.1 0 (by decide)) rfl (c_m_isRider hm _) (fun v1 w1 h1 => ?_)
  obtain ⟨rfl, rfl⟩ := h1
  refine x_if_eq 8 26 (ab_dd tk_m_areTwo 3 rfl) rfl (by decide) (fun h5 => ?_) (fun h5 => ?_)
  · refine x_iconst 27 0 (ab_dd tk_m_areTwo 14 rfl) rfl (by decide) ?_
    exact x_iret (ab_dd tk_m_areTwo 15 rfl) ⟨by rw [if_neg (fun z => absurd h5 (by rw [if_pos z.1]; decide))], rfl⟩
  · refine x_aload_n 9 0 (ab_dd tk_m_areTwo 4 rfl) rfl rfl rfl ?_
    refine x_lload_n 10 3 (ab_dd tk_m_areTwo 5 rfl) rfl rfl rfl ?_
    refine t_callV 13 M_m_isRider 1 1 [_] (ab_dd tk_m_areTwo 6 rfl) rfl (by decide) K_m_isRider V_m_isRider.1 V_m_isRider.2 L_m_258 rfl (Nat.le_of_ble_eq_true rfl) (by decide) (Nat.lt_of_lt_of_le (by decide) hm.1) (hm.2.1 0 (by decide)) rfl (c_m_isRider hm _) (fun v1 w1 h1 => ?_)
    obtain ⟨rfl, rfl⟩ := h1
    refine x_if_eq 16 26 (ab_dd tk_m_areTwo 7 rfl) rfl (by decide) (fun h13 => ?_) (fun h13 => ?_)
    · refine x_iconst 27 0 (ab_dd tk_m_areTwo 14 rfl) rfl (by decide) ?_
      exact x_iret (ab_dd tk_m_areTwo 15 rfl) ⟨by rw [if_neg (fun z => absurd h13 (by rw [if_pos z.2.1]; decide))], rfl⟩
    · refine x_lload_n 17 1 (ab_dd tk_m_areTwo 8 rfl) rfl rfl rfl ?_
      refine x_lload_n 18 3 (ab_dd tk_m_areTwo 9 rfl) rfl rfl rfl ?_
      refine x_lcmp 19 (ab_dd tk_m_areTwo 10 rfl) rfl ?_
      refine x_if_eq 22 26 (ab_dd tk_m_areTwo 11 rfl) rfl (by decide) (fun h19 => ?_) (fun h19 => ?_)
      · refine x_iconst 27 0 (ab_dd tk_m_areTwo 14 rfl) rfl (by decide) ?_
        exact x_iret (ab_dd tk_m_areTwo 15 rfl) ⟨by rw [if_neg (fun z => z.2.2 ((lg_cmp_eq _ _).mp h19))], rfl⟩
      · refine x_iconst 23 1 (ab_dd tk_m_areTwo 12 rfl) rfl (by decide) ?_
        refine x_goto 27 (ab_dd tk_m_areTwo 13 rfl) (by decide) ?_
        exact x_iret (ab_dd tk_m_areTwo 15 rfl) ⟨by rw [if_pos ⟨Decidable.byContradiction (fun z => h5 (if_neg z)), Decidable.byContradiction (fun z => h13 (if_neg z)), fun z => h19 ((lg_cmp_eq _ _).mpr z)⟩], rfl⟩
def tb_m_givesOn : List (Nat × Instr × Nat) := [(0, .aload_n 0, 1), (1, .getfield 13, 3), (4, .bipush 28, 2), (6, .iload_n 1, 1), (7, .iadd, 1), (8, .iaload, 1), (9, .istore_n 3, 1), (10, .aload_n 0, 1), (11, .getfield 13, 3), (14, .bipush 28, 2), (16, .iload_n 1, 1), (17, .iadd, 1), (18, .aload_n 0, 1), (19, .getfield 13, 3), (22, .bipush 28, 2), (24, .iload_n 2, 1), (25, .iadd, 1), (26, .iaload, 1), (27, .iastore, 1), (28, .aload_n 0, 1), (29, .getfield 13, 3), (32, .bipush 28, 2), (34, .iload_n 2, 1), (35, .iadd, 1), (36, .iload_n 3, 1), (37, .iastore, 1), (38, .return_, 1)]
theorem tk_m_givesOn : ∀ q ∈ tb_m_givesOn, decode M_m_givesOn.2.1 q.1 = .ok q.2 := by decide +kernel
/-- p and q have each other's season -/
def mGiv (a : Nat → Int32) (p q : Nat) : Nat → Int32 := up1 (up1 a (28 + p) (a (28 + q))) (28 + q) (a (28 + p))
theorem c_m_givesOn {G : ab_G} {S : ab_S} (hm : mSh S) (p q : Nat) (hp : p < 4) (hq : q < 4) : ab_C G 0 M_m_givesOn [.ref 120, .int (nI p), .int (nI q)] (sw S) (fun v w' => v = none ∧ ∃ S', w' = sw S' ∧ sEq [121] S S' ∧ mA S' = mGiv (mA S) p q) := by
  refine x_enter [some (.ref 120), some (.int (nI p)), some (.int (nI q)), none] (by decide) (Nat.le_of_ble_eq_true rfl) rfl (fun v w' h => by obtain ⟨rfl, -⟩ := h; trivial) ?_
  refine x_aload_n 1 0 (ab_dd tk_m_givesOn 0 rfl) rfl rfl rfl ?_
  refine t_getP 4 121 (ab_dd tk_m_givesOn 1 rfl) rfl F_m_13 (by decide) (Nat.lt_of_lt_of_le (by decide) hm.1) (hm.2.1 0 (by decide)) rfl (hm.2.2 1 (by decide)) ?_
  refine x_bipush 6 28 (ab_dd tk_m_givesOn 2 rfl) rfl (by decide) ?_
  refine x_iload_n 7 1 (ab_dd tk_m_givesOn 3 rfl) rfl rfl rfl ?_
  refine x_iadd 8 (ab_dd tk_m_givesOn 4 rfl) rfl ?_
  refine t_iald 9 (28 + p) (ab_dd tk_m_givesOn 5 rfl) rfl (by decide) (Nat.lt_of_lt_of_le (by decide) hm.1) (hm.2.1 1 (by decide)) (by rw [show (28 : Int32) = nI 28 from rfl, nI_add]) (by omega) (by decide) ?_
  refine x_topi (fun v1 ev1 => ?_)
  refine x_istore_n 10 [some (.ref 120), some (.int (nI p)), some (.int (nI q)), some (.int v1)] 3 (ab_dd tk_m_givesOn 6 rfl) rfl rfl (by decide) rfl ?_
  refine x_aload_n 11 0 (ab_dd tk_m_givesOn 7 rfl) rfl rfl rfl ?_
  refine t_getP 14 121 (ab_dd tk_m_givesOn 8 rfl) rfl F_m_13 (by decide) (Nat.lt_of_lt_of_le (by decide) hm.1) (hm.2.1 0 (by decide)) rfl (hm.2.2 1 (by decide)) ?_
  refine x_bipush 16 28 (ab_dd tk_m_givesOn 9 rfl) rfl (by decide) ?_
  refine x_iload_n 17 1 (ab_dd tk_m_givesOn 10 rfl) rfl rfl rfl ?_
  refine x_iadd 18 (ab_dd tk_m_givesOn 11 rfl) rfl ?_
  refine x_aload_n 19 0 (ab_dd tk_m_givesOn 12 rfl) rfl rfl rfl ?_
  refine t_getP 22 121 (ab_dd tk_m_givesOn 13 rfl) rfl F_m_13 (by decide) (Nat.lt_of_lt_of_le (by decide) hm.1) (hm.2.1 0 (by decide)) rfl (hm.2.2 1 (by decide)) ?_
  refine x_bipush 24 28 (ab_dd tk_m_givesOn 14 rfl) rfl (by decide) ?_
  refine x_iload_n 25 2 (ab_dd tk_m_givesOn 15 rfl) rfl rfl rfl ?_
  refine x_iadd 26 (ab_dd tk_m_givesOn 16 rfl) rfl ?_
  refine t_iald 27 (28 + q) (ab_dd tk_m_givesOn 17 rfl) rfl (by decide) (Nat.lt_of_lt_of_le (by decide) hm.1) (hm.2.1 1 (by decide)) (by rw [show (28 : Int32) = nI 28 from rfl, nI_add]) (by omega) (by decide) ?_
  refine t_iast 28 (28 + p) (ab_dd tk_m_givesOn 18 rfl) rfl (by decide) (Nat.lt_of_lt_of_le (by decide) hm.1) (hm.2.1 1 (by decide)) (by rw [show (28 : Int32) = nI 28 from rfl, nI_add]) (by omega) (by decide) ?_
  refine x_aload_n 29 0 (ab_dd tk_m_givesOn 19 rfl) rfl rfl rfl ?_
  refine t_getP 32 121 (ab_dd tk_m_givesOn 20 rfl) rfl F_m_13 (by decide) (Nat.lt_of_lt_of_le (by decide) hm.1) (hm.2.1 0 (by decide)) rfl (hm.2.2 1 (by decide)) ?_
  refine x_bipush 34 28 (ab_dd tk_m_givesOn 21 rfl) rfl (by decide) ?_
  refine x_iload_n 35 2 (ab_dd tk_m_givesOn 22 rfl) rfl rfl rfl ?_
  refine x_iadd 36 (ab_dd tk_m_givesOn 23 rfl) rfl ?_
  refine x_iload_n 37 3 (ab_dd tk_m_givesOn 24 rfl) rfl rfl rfl ?_
  refine t_iast 38 (28 + q) (ab_dd tk_m_givesOn 25 rfl) rfl (by decide) (Nat.lt_of_lt_of_le (by decide) hm.1) (hm.2.1 1 (by decide)) (by rw [show (28 : Int32) = nI 28 from rfl, nI_add]) (by omega) (by decide) ?_
  exact x_vret (ab_dd tk_m_givesOn 26 rfl) ⟨rfl, _, rfl, (sEq.rf.pI (by decide)).pI (by decide), by
    funext i
    show up2 (up2 (sI S) 121 (28 + p) _) 121 (28 + q) _ 121 i = _
    unfold mGiv
    by_cases h : i = 28 + q
    · subst h; rw [up2_s, up1_s, ev1]
    · rw [up2_k h, up1_o h]
      by_cases g : i = 28 + p
      · subst g; rw [up2_s, up1_s]
      · rw [up2_k g, up1_o g]⟩
def tb_m_give : List (Nat × Instr × Nat) := [(0, .aload_n 0, 1), (1, .iconst 0, 1), (2, .putfield 1, 3), (5, .aload_n 0, 1), (6, .iload_n 1, 1), (7, .i2l, 1), (8, .iload_n 2, 1), (9, .i2l, 1), (10, .invokevirtual 293, 3), (13, .ifCond .ne 6, 3), (16, .bipush (-11), 2), (18, .ireturn, 1), (19, .aload_n 0, 1), (20, .invokevirtual 279, 3), (23, .aload_n 0, 1), (24, .iload_n 1, 1), (25, .iload_n 2, 1), (26, .invokevirtual 297, 3), (29, .aload_n 0, 1), (30, .invokevirtual 285, 3), (33, .aload_n 0, 1), (34, .getfield 13, 3), (37, .bipush 28, 2), (39, .iload_n 1, 1), (40, .iadd, 1), (41, .iaload, 1), (42, .ireturn, 1)]
theorem tk_m_give : ∀ q ∈ tb_m_give, decode M_m_give.2.1 q.1 = .ok q.2 := by decide +kernel
theorem two_iff {S : ab_S} (hv : mV S) (r u : Int32) : ((0 ≤ r.toInt64 ∧ r.toInt64 ≤ (mA S 1 - 1).toInt64) ∧ (0 ≤ u.toInt64 ∧ u.toInt64 ≤ (mA S 1 - 1).toInt64) ∧ ¬ r.toInt64 = u.toInt64) ↔ ((0 ≤ r ∧ cN r < mR S) ∧ (0 ≤ u ∧ cN u < mR S) ∧ ¬ r = u) := by
  rw [rid_iff hv r, rid_iff hv u]
  have e : r.toInt64 = u.toInt64 ↔ r = u := by rw [← Int64.toInt_inj, Int32.toInt_toInt64, Int32.toInt_toInt64, Int32.toInt_inj]
  rw [e]
theorem c_m_give {G : ab_G} {S : ab_S} (hm : mSh S) (hv : mV S) (hl : mLw S) (hp : mPe S) (nd : Nat) (hn42 : mA S 42 = nI nd) (hnd : nd ≤ 10) (r u : Int32) : ab_C G 3 M_m_give [.ref 120, .int r, .int u] (sw S) (fun v w' => ∃ S', w' = sw S' ∧ sEq [121, 127] (m0 S) S' ∧ ((((0 ≤ r ∧ cN r < mR (m0 S)) ∧ (0 ≤ u ∧ cN u < mR (m0 S)) ∧ ¬ r = u) ∧ v = some (.int (mA (m0 S) (28 + cN u))) ∧ mA S' = mDid (m0 S) (mGiv (mA (m0 S)) (cN r) (cN u)) nd) ∨ (¬ ((0 ≤ r ∧ cN r < mR (m0 S)) ∧ (0 ≤ u ∧ cN u < mR (m0 S)) ∧ ¬ r = u) ∧ v = some (.int (-11)) ∧ mA S' = mA (m0 S)))) := by
  refine x_enter [some (.ref 120), some (.int r), some (.int u)] (by decide) (Nat.le_of_ble_eq_true rfl) rfl (fun v w' h => by obtain ⟨S', rfl, -, h⟩ := h; rcases h with ⟨-, rfl, -⟩ | ⟨-, rfl, -⟩ <;> rfl) ?_
  have hm0 : mSh (m0 S) := hm
  have hv0 : mV (m0 S) := hv
  have hl0 : mLw (m0 S) := hl
  have hp0 : mPe (m0 S) := hp
  have hok := mEn_ok hv0 hp0
  have hR4 := hv0.1.2
  refine x_aload_n 1 0 (ab_dd tk_m_give 0 rfl) rfl rfl rfl ?_
  refine x_iconst 2 0 (ab_dd tk_m_give 1 rfl) rfl (by decide) ?_
  refine t_putI 5 (ab_dd tk_m_give 2 rfl) rfl F_m_1 (by decide) (Nat.lt_of_lt_of_le (by decide) hm.1) (hm.2.1 0 (by decide)) rfl rfl rfl ?_
  refine x_aload_n 6 0 (ab_dd tk_m_give 3 rfl) rfl rfl rfl ?_
  refine x_iload_n 7 1 (ab_dd tk_m_give 4 rfl) rfl rfl rfl ?_
  refine x_i2l 8 (ab_dd tk_m_give 5 rfl) rfl ?_
  refine x_iload_n 9 2 (ab_dd tk_m_give 6 rfl) rfl rfl rfl ?_
  refine x_i2l 10 (ab_dd tk_m_give 7 rfl) rfl ?_
  refine t_callV 13 M_m_areTwo 2 2 [_, _] (ab_dd tk_m_give 8 rfl) rfl (by decide) K_m_areTwo V_m_areTwo.1 V_m_areTwo.2 L_m_293 rfl (Nat.le_of_ble_eq_true rfl) (by decide) (Nat.lt_of_lt_of_le (by decide) hm.1) (hm.2.1 0 (by decide)) rfl (c_m_areTwo hm0 _ _) (fun v1 w1 h1 => ?_)
  obtain ⟨rfl, rfl⟩ := h1
  refine x_if_ne 16 19 (ab_dd tk_m_give 9 rfl) rfl (by decide) (fun h13 => ?_) (fun h13 => ?_)
  · have hz : ((0 ≤ r ∧ cN r < mR (m0 S)) ∧ (0 ≤ u ∧ cN u < mR (m0 S)) ∧ ¬ r = u) := (two_iff hv0 r u).mp (Decidable.byContradiction (fun z => h13 (if_neg z)))
    obtain ⟨p, hpp, er, ecr⟩ := rid_get hz.1 hR4
    obtain ⟨q, hqq, eu, ecu⟩ := rid_get hz.2.1 hR4
    have hpq : p ≠ q := fun e => hz.2.2 (by rw [er, eu, e])
    refine x_aload_n 20 0 (ab_dd tk_m_give 12 rfl) rfl rfl rfl ?_
    refine t_callV 23 M_m_stores 0 0 [] (ab_dd tk_m_give 13 rfl) rfl (by decide) K_m_stores V_m_stores.1 V_m_stores.2 L_m_279 rfl (Nat.le_of_ble_eq_true rfl) (by decide) (Nat.lt_of_lt_of_le (by decide) hm.1) (hm.2.1 0 (by decide)) rfl (c_m_stores hm0) (fun v1 w1 h1 => ?_)
    obtain ⟨rfl, S2, rfl, hE2, hW2⟩ := h1
    have hm2 := hm0.eq hE2
    have eA2 : mA S2 = mA (m0 S) := hE2.2.2.1 121 (by decide)
    refine x_aload_n 24 0 (ab_dd tk_m_give 14 rfl) rfl rfl rfl ?_
    refine x_iload_n 25 1 (ab_dd tk_m_give 15 rfl) rfl rfl rfl ?_
    refine x_iload_n 26 2 (ab_dd tk_m_give 16 rfl) rfl rfl rfl ?_
    have hgv := c_m_givesOn (G := G) hm2 p q (by omega) (by omega)
    rw [← er, ← eu, eA2] at hgv
    refine t_callV 29 M_m_givesOn 0 2 [_, _] (ab_dd tk_m_give 17 rfl) rfl (by decide) K_m_givesOn V_m_givesOn.1 V_m_givesOn.2 L_m_297 rfl (Nat.le_of_ble_eq_true rfl) (by decide) (Nat.lt_of_lt_of_le (by decide) hm2.1) (hm2.2.1 0 (by decide)) rfl (hgv) (fun v1 w1 h1 => ?_)
    obtain ⟨rfl, S3, rfl, hE3, hA3⟩ := h1
    have hm3 := hm2.eq hE3
    refine x_aload_n 30 0 (ab_dd tk_m_give 18 rfl) rfl rfl rfl ?_
    have h42 : mA S3 42 = nI nd := by
      rw [hA3]
      unfold mGiv
      rw [up1_o (by omega), up1_o (by omega)]
      exact hn42
    refine t_callV 33 M_m_notes 0 0 [] (ab_dd tk_m_give 19 rfl) rfl (by decide) K_m_notes V_m_notes.1 V_m_notes.2 L_m_285 rfl (Nat.le_of_ble_eq_true rfl) (by decide) (Nat.lt_of_lt_of_le (by decide) hm3.1) (hm3.2.1 0 (by decide)) rfl (c_m_notes hm3 nd h42 hnd) (fun v1 w1 h1 => ?_)
    obtain ⟨rfl, S4, rfl, hE4, hA4⟩ := h1
    have hm4 := hm3.eq hE4
    have hA5 : mA S4 = mDid (m0 S) (mGiv (mA (m0 S)) p q) nd := by
      rw [hA4, hA3]
      exact mNote_cg (fun k hk => by rw [hE3.2.2.1 127 (by decide), hW2 k hk]; rfl)
    refine x_aload_n 34 0 (ab_dd tk_m_give 20 rfl) rfl rfl rfl ?_
    refine t_getP 37 121 (ab_dd tk_m_give 21 rfl) rfl F_m_13 (by decide) (Nat.lt_of_lt_of_le (by decide) hm4.1) (hm4.2.1 0 (by decide)) rfl (hm4.2.2 1 (by decide)) ?_
    refine x_bipush 39 28 (ab_dd tk_m_give 22 rfl) rfl (by decide) ?_
    refine x_iload_n 40 1 (ab_dd tk_m_give 23 rfl) rfl rfl rfl ?_
    refine x_iadd 41 (ab_dd tk_m_give 24 rfl) rfl ?_
    refine t_iald 42 (28 + p) (ab_dd tk_m_give 25 rfl) rfl (by decide) (Nat.lt_of_lt_of_le (by decide) hm4.1) (hm4.2.1 1 (by decide)) (by rw [er, show (28 : Int32) = nI 28 from rfl, nI_add]) (by omega) (by decide) ?_
    exact x_iret (ab_dd tk_m_give 26 rfl) ⟨S4, rfl, ((hE2.mono (by decide)).tr (hE3.mono (by decide))).tr (hE4.mono (by decide)), Or.inl ⟨hz, by
      rw [show sI S4 121 (28 + p) = mA (m0 S) (28 + q) from ?_, ecu]
      rw [show sI S4 121 = mA S4 from rfl, hA5]
      unfold mDid
      rw [mNote_lo (by omega)]
      unfold mGiv
      rw [up1_o (by omega), up1_s], by rw [hA5, ecr, ecu]⟩⟩
  · refine x_bipush 18 (-11) (ab_dd tk_m_give 10 rfl) rfl (by decide) ?_
    exact x_iret (ab_dd tk_m_give 11 rfl) ⟨_, rfl, sEq.rf, Or.inr ⟨fun z => absurd h13 (by rw [if_pos ((two_iff hv0 r u).mpr z)]; decide), rfl, rfl⟩⟩
def tb_m_rug : List (Nat × Instr × Nat) := [(0, .aload_n 0, 1), (1, .iconst 0, 1), (2, .putfield 1, 3), (5, .aload_n 0, 1), (6, .iload_n 1, 1), (7, .i2l, 1), (8, .invokevirtual 258, 3), (11, .ifCond .ne 6, 3), (14, .bipush (-11), 2), (16, .ireturn, 1), (17, .aload_n 0, 1), (18, .invokevirtual 279, 3), (21, .aload_n 0, 1), (22, .getfield 13, 3), (25, .bipush 32, 2), (27, .iload_n 1, 1), (28, .iadd, 1), (29, .iconst 4, 1), (30, .iastore, 1), (31, .aload_n 0, 1), (32, .invokevirtual 285, 3), (35, .aload_n 0, 1), (36, .getfield 36, 3), (39, .iconst 4, 1), (40, .iload_n 1, 1), (41, .iadd, 1), (42, .iaload, 1), (43, .ireturn, 1)]
theorem tk_m_rug : ∀ q ∈ tb_m_rug, decode M_m_rug.2.1 q.1 = .ok q.2 := by decide +kernel
theorem c_m_rug {G : ab_G} {S : ab_S} (hm : mSh S) (hv : mV S) (hl : mLw S) (hp : mPe S) (nd : Nat) (hn42 : mA S 42 = nI nd) (hnd : nd ≤ 10) (r : Int32) : ab_C G 3 M_m_rug [.ref 120, .int r] (sw S) (fun v w' => ∃ S', w' = sw S' ∧ sEq [121, 127] (m0 S) S' ∧ (((0 ≤ r ∧ cN r < mR (m0 S)) ∧ v = some (.int (mA (m0 S) (32 + cN r))) ∧ mA S' = mDid (m0 S) (up1 (mA (m0 S)) (32 + cN r) 4) nd) ∨ (¬ (0 ≤ r ∧ cN r < mR (m0 S)) ∧ v = some (.int (-11)) ∧ mA S' = mA (m0 S)))) := by
  refine x_enter [some (.ref 120), some (.int r)] (by decide) (Nat.le_of_ble_eq_true rfl) rfl (fun v w' h => by obtain ⟨S', rfl, -, h⟩ := h; rcases h with ⟨-, rfl, -⟩ | ⟨-, rfl, -⟩ <;> rfl) ?_
  have hm0 : mSh (m0 S) := hm
  have hv0 : mV (m0 S) := hv
  have hl0 : mLw (m0 S) := hl
  have hp0 : mPe (m0 S) := hp
  have hok := mEn_ok hv0 hp0
  have hR4 := hv0.1.2
  refine x_aload_n 1 0 (ab_dd tk_m_rug 0 rfl) rfl rfl rfl ?_
  refine x_iconst 2 0 (ab_dd tk_m_rug 1 rfl) rfl (by decide) ?_
  refine t_putI 5 (ab_dd tk_m_rug 2 rfl) rfl F_m_1 (by decide) (Nat.lt_of_lt_of_le (by decide) hm.1) (hm.2.1 0 (by decide)) rfl rfl rfl ?_
  refine x_aload_n 6 0 (ab_dd tk_m_rug 3 rfl) rfl rfl rfl ?_
  refine x_iload_n 7 1 (ab_dd tk_m_rug 4 rfl) rfl rfl rfl ?_
  refine x_i2l 8 (ab_dd tk_m_rug 5 rfl) rfl ?_
  refine t_callV 11 M_m_isRider 1 1 [_] (ab_dd tk_m_rug 6 rfl) rfl (by decide) K_m_isRider V_m_isRider.1 V_m_isRider.2 L_m_258 rfl (Nat.le_of_ble_eq_true rfl) (by decide) (Nat.lt_of_lt_of_le (by decide) hm.1) (hm.2.1 0 (by decide)) rfl (c_m_isRiderI hm0 hv0 _) (fun v1 w1 h1 => ?_)
  obtain ⟨rfl, rfl⟩ := h1
  refine x_if_ne 14 17 (ab_dd tk_m_rug 7 rfl) rfl (by decide) (fun h11 => ?_) (fun h11 => ?_)
  · have hz : (0 ≤ r ∧ cN r < mR (m0 S)) := Decidable.byContradiction (fun z => h11 (if_neg z))
    obtain ⟨p, hpp, er, ecr⟩ := rid_get hz hR4
    refine x_aload_n 18 0 (ab_dd tk_m_rug 10 rfl) rfl rfl rfl ?_
    refine t_callV 21 M_m_stores 0 0 [] (ab_dd tk_m_rug 11 rfl) rfl (by decide) K_m_stores V_m_stores.1 V_m_stores.2 L_m_279 rfl (Nat.le_of_ble_eq_true rfl) (by decide) (Nat.lt_of_lt_of_le (by decide) hm.1) (hm.2.1 0 (by decide)) rfl (c_m_stores hm0) (fun v1 w1 h1 => ?_)
    obtain ⟨rfl, S2, rfl, hE2, hW2⟩ := h1
    have hm2 := hm0.eq hE2
    have eA2 : mA S2 = mA (m0 S) := hE2.2.2.1 121 (by decide)
    refine x_aload_n 22 0 (ab_dd tk_m_rug 12 rfl) rfl rfl rfl ?_
    refine t_getP 25 121 (ab_dd tk_m_rug 13 rfl) rfl F_m_13 (by decide) (Nat.lt_of_lt_of_le (by decide) hm2.1) (hm2.2.1 0 (by decide)) rfl (hm2.2.2 1 (by decide)) ?_
    refine x_bipush 27 32 (ab_dd tk_m_rug 14 rfl) rfl (by decide) ?_
    refine x_iload_n 28 1 (ab_dd tk_m_rug 15 rfl) rfl rfl rfl ?_
    refine x_iadd 29 (ab_dd tk_m_rug 16 rfl) rfl ?_
    refine x_iconst 30 4 (ab_dd tk_m_rug 17 rfl) rfl (by decide) ?_
    refine t_iast 31 (32 + p) (ab_dd tk_m_rug 18 rfl) rfl (by decide) (Nat.lt_of_lt_of_le (by decide) hm2.1) (hm2.2.1 1 (by decide)) (by rw [er, show (32 : Int32) = nI 32 from rfl, nI_add]) (by omega) (by decide) ?_
    refine x_aload_n 32 0 (ab_dd tk_m_rug 19 rfl) rfl rfl rfl ?_
    have hA3 : mA (pI S2 121 (32 + p) 4) = up1 (mA (m0 S)) (32 + p) 4 := by
      rw [← eA2]
      funext i
      show up2 (sI S2) 121 (32 + p) 4 121 i = _
      by_cases h : i = 32 + p
      · subst h; rw [up2_s, up1_s]
      · rw [up2_k h, up1_o h]
    have hm3 : mSh (pI S2 121 (32 + p) 4) := hm2
    have h42 : mA (pI S2 121 (32 + p) 4) 42 = nI nd := by
      rw [hA3, up1_o (by omega)]
      exact hn42
    refine t_callV 35 M_m_notes 0 0 [] (ab_dd tk_m_rug 20 rfl) rfl (by decide) K_m_notes V_m_notes.1 V_m_notes.2 L_m_285 rfl (Nat.le_of_ble_eq_true rfl) (by decide) (Nat.lt_of_lt_of_le (by decide) hm3.1) (hm3.2.1 0 (by decide)) rfl (c_m_notes hm3 nd h42 hnd) (fun v1 w1 h1 => ?_)
    obtain ⟨rfl, S4, rfl, hE4, hA4⟩ := h1
    have hm4 := hm3.eq hE4
    have hA5 : mA S4 = mDid (m0 S) (up1 (mA (m0 S)) (32 + p) 4) nd := by
      rw [hA4, hA3]
      exact mNote_cg (fun k hk => by exact (hW2 k hk))
    refine x_aload_n 36 0 (ab_dd tk_m_rug 21 rfl) rfl rfl rfl ?_
    refine t_getP 39 127 (ab_dd tk_m_rug 22 rfl) rfl F_m_36 (by decide) (Nat.lt_of_lt_of_le (by decide) hm4.1) (hm4.2.1 0 (by decide)) rfl (hm4.2.2 18 (by decide)) ?_
    refine x_iconst 40 4 (ab_dd tk_m_rug 23 rfl) rfl (by decide) ?_
    refine x_iload_n 41 1 (ab_dd tk_m_rug 24 rfl) rfl rfl rfl ?_
    refine x_iadd 42 (ab_dd tk_m_rug 25 rfl) rfl ?_
    refine t_iald 43 (4 + p) (ab_dd tk_m_rug 26 rfl) rfl (by decide) (Nat.lt_of_lt_of_le (by decide) hm4.1) (hm4.2.1 7 (by decide)) (by rw [er, show (4 : Int32) = nI 4 from rfl, nI_add]) (by omega) (by decide) ?_
    exact x_iret (ab_dd tk_m_rug 27 rfl) ⟨S4, rfl, ((hE2.mono (l' := [121, 127]) (by decide)).pI (by decide)).tr (hE4.mono (by decide)), Or.inl ⟨hz, by
      rw [hE4.2.2.1 127 (by decide), show sI (pI S2 121 (32 + p) 4) 127 = sI S2 127 from rfl, hW2 (4 + p) (by omega), ecr, show 28 + (4 + p) = 32 + p by omega], by rw [hA5, ecr]⟩⟩
  · refine x_bipush 16 (-11) (ab_dd tk_m_rug 8 rfl) rfl (by decide) ?_
    exact x_iret (ab_dd tk_m_rug 9 rfl) ⟨_, rfl, sEq.rf, Or.inr ⟨fun z => absurd h11 (by rw [if_pos z]; decide), rfl, rfl⟩⟩
def tb_m_month : List (Nat × Instr × Nat) := [(0, .aload_n 0, 1), (1, .iconst 0, 1), (2, .putfield 1, 3), (5, .iload_n 1, 1), (6, .i2l, 1), (7, .lconst 0, 1), (8, .ldc2_w 301, 3), (11, .invokestatic 159, 3), (14, .ifCond .ne 6, 3), (17, .bipush (-11), 2), (19, .ireturn, 1), (20, .aload_n 0, 1), (21, .invokevirtual 279, 3), (24, .aload_n 0, 1), (25, .getfield 13, 3), (28, .bipush 40, 2), (30, .iload_n 1, 1), (31, .iastore, 1), (32, .aload_n 0, 1), (33, .invokevirtual 285, 3), (36, .aload_n 0, 1), (37, .getfield 36, 3), (40, .bipush 12, 2), (42, .iaload, 1), (43, .ireturn, 1)]
theorem tk_m_month : ∀ q ∈ tb_m_month, decode M_m_month.2.1 q.1 = .ok q.2 := by decide +kernel
theorem w0_9 (x : Int32) : ((0 : Int64) ≤ x.toInt64 ∧ x.toInt64 ≤ 9) ↔ (0 ≤ x ∧ x ≤ 9) := by
  rw [Int64.le_iff_toInt_le, Int64.le_iff_toInt_le, Int32.toInt_toInt64, Int32.le_iff_toInt_le, Int32.le_iff_toInt_le]
  exact Iff.rfl
theorem c_m_month {G : ab_G} {S : ab_S} (hm : mSh S) (hv : mV S) (hl : mLw S) (hp : mPe S) (nd : Nat) (hn42 : mA S 42 = nI nd) (hnd : nd ≤ 10) (r : Int32) : ab_C G 3 M_m_month [.ref 120, .int r] (sw S) (fun v w' => ∃ S', w' = sw S' ∧ sEq [121, 127] (m0 S) S' ∧ (((0 ≤ r ∧ r ≤ 9) ∧ v = some (.int (mA (m0 S) 40)) ∧ mA S' = mDid (m0 S) (up1 (mA (m0 S)) 40 r) nd) ∨ (¬ (0 ≤ r ∧ r ≤ 9) ∧ v = some (.int (-11)) ∧ mA S' = mA (m0 S)))) := by
  refine x_enter [some (.ref 120), some (.int r)] (by decide) (Nat.le_of_ble_eq_true rfl) rfl (fun v w' h => by obtain ⟨S', rfl, -, h⟩ := h; rcases h with ⟨-, rfl, -⟩ | ⟨-, rfl, -⟩ <;> rfl) ?_
  have hm0 : mSh (m0 S) := hm
  have hv0 : mV (m0 S) := hv
  have hl0 : mLw (m0 S) := hl
  have hp0 : mPe (m0 S) := hp
  have hok := mEn_ok hv0 hp0
  have hR4 := hv0.1.2
  refine x_aload_n 1 0 (ab_dd tk_m_month 0 rfl) rfl rfl rfl ?_
  refine x_iconst 2 0 (ab_dd tk_m_month 1 rfl) rfl (by decide) ?_
  refine t_putI 5 (ab_dd tk_m_month 2 rfl) rfl F_m_1 (by decide) (Nat.lt_of_lt_of_le (by decide) hm.1) (hm.2.1 0 (by decide)) rfl rfl rfl ?_
  refine x_iload_n 6 1 (ab_dd tk_m_month 3 rfl) rfl rfl rfl ?_
  refine x_i2l 7 (ab_dd tk_m_month 4 rfl) rfl ?_
  refine x_lconst 8 0 (ab_dd tk_m_month 5 rfl) rfl (by decide) ?_
  refine x_ldc2 11 (ab_dd tk_m_month 6 rfl) rfl C_m_301 ?_
  refine x_callS 14 M_m_within 0 3 [_, _, _] (ab_dd tk_m_month 7 rfl) rfl (by decide) K_m_within T_m_within L_m_159 rfl (Nat.le_of_ble_eq_true rfl) (c_m_within _ _ _ _) (fun v1 w1 h1 => ?_)
  obtain ⟨rfl, rfl⟩ := h1
  refine x_if_ne 17 20 (ab_dd tk_m_month 8 rfl) rfl (by decide) (fun h14 => ?_) (fun h14 => ?_)
  · refine x_aload_n 21 0 (ab_dd tk_m_month 11 rfl) rfl rfl rfl ?_
    refine t_callV 24 M_m_stores 0 0 [] (ab_dd tk_m_month 12 rfl) rfl (by decide) K_m_stores V_m_stores.1 V_m_stores.2 L_m_279 rfl (Nat.le_of_ble_eq_true rfl) (by decide) (Nat.lt_of_lt_of_le (by decide) hm.1) (hm.2.1 0 (by decide)) rfl (c_m_stores hm0) (fun v1 w1 h1 => ?_)
    obtain ⟨rfl, S2, rfl, hE2, hW2⟩ := h1
    have hm2 := hm0.eq hE2
    have eA2 : mA S2 = mA (m0 S) := hE2.2.2.1 121 (by decide)
    refine x_aload_n 25 0 (ab_dd tk_m_month 13 rfl) rfl rfl rfl ?_
    refine t_getP 28 121 (ab_dd tk_m_month 14 rfl) rfl F_m_13 (by decide) (Nat.lt_of_lt_of_le (by decide) hm2.1) (hm2.2.1 0 (by decide)) rfl (hm2.2.2 1 (by decide)) ?_
    refine x_bipush 30 40 (ab_dd tk_m_month 15 rfl) rfl (by decide) ?_
    refine x_iload_n 31 1 (ab_dd tk_m_month 16 rfl) rfl rfl rfl ?_
    refine t_iast 32 40 (ab_dd tk_m_month 17 rfl) rfl (by decide) (Nat.lt_of_lt_of_le (by decide) hm2.1) (hm2.2.1 1 (by decide)) (by decide) (by decide) (by decide) ?_
    refine x_aload_n 33 0 (ab_dd tk_m_month 18 rfl) rfl rfl rfl ?_
    have hA3 : mA (pI S2 121 40 r) = up1 (mA (m0 S)) 40 r := by
      rw [← eA2]
      funext i
      show up2 (sI S2) 121 40 r 121 i = _
      by_cases h : i = 40
      · subst h; rw [up2_s, up1_s]
      · rw [up2_k h, up1_o h]
    have hm3 : mSh (pI S2 121 40 r) := hm2
    have h42 : mA (pI S2 121 40 r) 42 = nI nd := by
      rw [hA3, up1_o (by omega)]
      exact hn42
    refine t_callV 36 M_m_notes 0 0 [] (ab_dd tk_m_month 19 rfl) rfl (by decide) K_m_notes V_m_notes.1 V_m_notes.2 L_m_285 rfl (Nat.le_of_ble_eq_true rfl) (by decide) (Nat.lt_of_lt_of_le (by decide) hm3.1) (hm3.2.1 0 (by decide)) rfl (c_m_notes hm3 nd h42 hnd) (fun v1 w1 h1 => ?_)
    obtain ⟨rfl, S4, rfl, hE4, hA4⟩ := h1
    have hm4 := hm3.eq hE4
    have hA5 : mA S4 = mDid (m0 S) (up1 (mA (m0 S)) 40 r) nd := by
      rw [hA4, hA3]
      exact mNote_cg (fun k hk => by exact (hW2 k hk))
    refine x_aload_n 37 0 (ab_dd tk_m_month 20 rfl) rfl rfl rfl ?_
    refine t_getP 40 127 (ab_dd tk_m_month 21 rfl) rfl F_m_36 (by decide) (Nat.lt_of_lt_of_le (by decide) hm4.1) (hm4.2.1 0 (by decide)) rfl (hm4.2.2 18 (by decide)) ?_
    refine x_bipush 42 12 (ab_dd tk_m_month 22 rfl) rfl (by decide) ?_
    refine t_iald 43 12 (ab_dd tk_m_month 23 rfl) rfl (by decide) (Nat.lt_of_lt_of_le (by decide) hm4.1) (hm4.2.1 7 (by decide)) (by decide) (by decide) (by decide) ?_
    exact x_iret (ab_dd tk_m_month 24 rfl) ⟨S4, rfl, ((hE2.mono (l' := [121, 127]) (by decide)).pI (by decide)).tr (hE4.mono (by decide)), Or.inl ⟨(w0_9 r).mp (Decidable.byContradiction (fun z => h14 (if_neg z))), by
      rw [hE4.2.2.1 127 (by decide), show sI (pI S2 121 40 r) 127 = sI S2 127 from rfl, hW2 12 (by decide)], hA5⟩⟩
  · refine x_bipush 19 (-11) (ab_dd tk_m_month 9 rfl) rfl (by decide) ?_
    exact x_iret (ab_dd tk_m_month 10 rfl) ⟨_, rfl, sEq.rf, Or.inr ⟨fun z => absurd h14 (by rw [if_pos ((w0_9 r).mpr z)]; decide), rfl, rfl⟩⟩
def tb_m_undo : List (Nat × Instr × Nat) := [(0, .aload_n 0, 1), (1, .iconst 0, 1), (2, .putfield 1, 3), (5, .iload_n 1, 1), (6, .i2l, 1), (7, .lconst 1, 1), (8, .ldc2_w 262, 3), (11, .invokestatic 159, 3), (14, .ifCond .eq 14, 3), (17, .iload_n 1, 1), (18, .aload_n 0, 1), (19, .getfield 13, 3), (22, .bipush 42, 2), (24, .iaload, 1), (25, .if_icmp .le 6, 3), (28, .bipush (-3), 2), (30, .ireturn, 1), (31, .aload_n 0, 1), (32, .getfield 13, 3), (35, .bipush 42, 2), (37, .dup2, 1), (38, .iaload, 1), (39, .iload_n 1, 1), (40, .isub, 1), (41, .iastore, 1), (42, .iconst 0, 1), (43, .istore_n 2, 1), (44, .iload_n 2, 1), (45, .bipush 14, 2), (47, .if_icmp .ge 38, 3), (50, .aload_n 0, 1), (51, .getfield 13, 3), (54, .bipush 28, 2), (56, .iload_n 2, 1), (57, .iadd, 1), (58, .aload_n 0, 1), (59, .getfield 13, 3), (62, .bipush 43, 2), (64, .bipush 14, 2), (66, .aload_n 0, 1), (67, .getfield 13, 3), (70, .bipush 42, 2), (72, .iaload, 1), (73, .imul, 1), (74, .iadd, 1), (75, .iload_n 2, 1), (76, .iadd, 1), (77, .iaload, 1), (78, .iastore, 1), (79, .iinc 2 1, 3), (82, .goto (-38), 3), (85, .aload_n 0, 1), (86, .getfield 13, 3), (89, .bipush 42, 2), (91, .iaload, 1), (92, .ireturn, 1)]
theorem tk_m_undo : ∀ q ∈ tb_m_undo, decode M_m_undo.2.1 q.1 = .ok q.2 := by decide +kernel
/-- the reference's row with the latest u calls undone, nd there being -/
def mUn (a : Nat → Int32) (t : Nat) : Nat → Int32 := fun i => if 28 ≤ i ∧ i < 28 + 14 then a (43 + 14 * t + (i - 28)) else if i = 42 then nI t else a i
theorem w1_10 (x : Int32) : ((1 : Int64) ≤ x.toInt64 ∧ x.toInt64 ≤ 10) ↔ (1 ≤ x ∧ x ≤ 10) := by
  rw [Int64.le_iff_toInt_le, Int64.le_iff_toInt_le, Int32.toInt_toInt64, Int32.le_iff_toInt_le, Int32.le_iff_toInt_le]
  exact Iff.rfl
theorem c_m_undo {G : ab_G} {S : ab_S} (hm : mSh S) (hv : mV S) (hl : mLw S) (hp : mPe S) (nd : Nat) (hn42 : mA S 42 = nI nd) (hnd : nd ≤ 10) (u : Int32) : ab_C G 1 M_m_undo [.ref 120, .int u] (sw S) (fun v w' => ∃ S', w' = sw S' ∧ sEq [121] (m0 S) S' ∧ (((1 ≤ u ∧ u ≤ nI nd) ∧ v = some (.int (nI (nd - cN u))) ∧ mA S' = mUn (mA (m0 S)) (nd - cN u)) ∨ (¬ (1 ≤ u ∧ u ≤ nI nd) ∧ v = some (.int (-3)) ∧ mA S' = mA (m0 S)))) := by
  refine x_enter [some (.ref 120), some (.int u), none] (by decide) (Nat.le_of_ble_eq_true rfl) rfl (fun v w' h => by obtain ⟨S', rfl, -, h⟩ := h; rcases h with ⟨-, rfl, -⟩ | ⟨-, rfl, -⟩ <;> rfl) ?_
  have hm0 : mSh (m0 S) := hm
  have hv0 : mV (m0 S) := hv
  have hl0 : mLw (m0 S) := hl
  have hp0 : mPe (m0 S) := hp
  have hok := mEn_ok hv0 hp0
  have hR4 := hv0.1.2
  have go : ∀ p : Nat, 1 ≤ p → p ≤ nd → u = nI p → ab_Ex G 1 M_m_undo 44 [some (.ref 120), some (.int u), some (.int (nI 0))] [] (sw (pI (m0 S) 121 42 (nI (nd - p)))) (fun v w' => ∃ S', w' = sw S' ∧ sEq [121] (m0 S) S' ∧ (((1 ≤ u ∧ u ≤ nI nd) ∧ v = some (.int (nI (nd - cN u))) ∧ mA S' = mUn (mA (m0 S)) (nd - cN u)) ∨ (¬ (1 ≤ u ∧ u ≤ nI nd) ∧ v = some (.int (-3)) ∧ mA S' = mA (m0 S)))) := by
    intro p hp1 hp2 eu
    have hmu : mSh (pI (m0 S) 121 42 (nI (nd - p))) := hm0
    have hz : (1 ≤ u ∧ u ≤ nI nd) := by rw [eu, show (1 : Int32) = nI 1 from rfl, nI_leI (by decide) (by omega), nI_leI (by omega) (by omega)]; exact ⟨hp1, hp2⟩
    have e42 : ∀ i, sI (pI (m0 S) 121 42 (nI (nd - p))) 121 i = if i = 42 then nI (nd - p) else mA (m0 S) i := fun i => by
      show up2 (sI (m0 S)) 121 42 _ 121 i = _
      by_cases h : i = 42
      · subst h; rw [up2_s, if_pos rfl]
      · rw [up2_k h, if_neg h]
    have loop : ∀ (m k : Nat), k + m = 14 → ∀ S1 : ab_S, sEq [121] (pI (m0 S) 121 42 (nI (nd - p))) S1 → (∀ i, sI S1 121 i = if 28 ≤ i ∧ i < 28 + k then (fun j => sI (pI (m0 S) 121 42 (nI (nd - p))) 121 (43 + 14 * (nd - p) + j)) (i - 28) else sI (pI (m0 S) 121 42 (nI (nd - p))) 121 i) → ab_Ex G 1 M_m_undo 44 [some (.ref 120), some (.int u), some (.int (nI k))] [] (sw S1) (fun v w' => ∃ S', w' = sw S' ∧ sEq [121] (m0 S) S' ∧ (((1 ≤ u ∧ u ≤ nI nd) ∧ v = some (.int (nI (nd - cN u))) ∧ mA S' = mUn (mA (m0 S)) (nd - cN u)) ∨ (¬ (1 ≤ u ∧ u ≤ nI nd) ∧ v = some (.int (-3)) ∧ mA S' = mA (m0 S)))) := by
      intro m
      induction m with
      | zero =>
        intro k hk S1 hE hV
        have hm1 := hmu.eq hE
        have hkN : k = 14 := by omega
        rw [hkN] at hV ⊢
        refine x_iload_n 45 2 (ab_dd tk_m_undo 27 rfl) rfl rfl rfl ?_
        refine x_bipush 47 14 (ab_dd tk_m_undo 28 rfl) rfl (by decide) ?_
        refine x_icmp_ge_t 85 (ab_dd tk_m_undo 29 rfl) (by decide) (by decide) ?_
        refine x_aload_n 86 0 (ab_dd tk_m_undo 51 rfl) rfl rfl rfl ?_
        refine t_getP 89 121 (ab_dd tk_m_undo 52 rfl) rfl F_m_13 (by decide) (Nat.lt_of_lt_of_le (by decide) hm1.1) (hm1.2.1 0 (by decide)) rfl (hm1.2.2 1 (by decide)) ?_
        refine x_bipush 91 42 (ab_dd tk_m_undo 53 rfl) rfl (by decide) ?_
        refine t_iald 92 42 (ab_dd tk_m_undo 54 rfl) rfl (by decide) (Nat.lt_of_lt_of_le (by decide) hm1.1) (hm1.2.1 1 (by decide)) (by decide) (by decide) (by decide) ?_
        exact x_iret (ab_dd tk_m_undo 55 rfl) ⟨S1, rfl, (sEq.rf.pI (by decide)).tr hE, Or.inl ⟨hz, by rw [show sI S1 121 42 = nI (nd - p) by rw [hV 42, if_neg (by omega), e42, if_pos rfl], eu, cN_nI (by omega)], by
          funext i
          rw [show mA S1 i = sI S1 121 i from rfl, hV i, eu, cN_nI (by omega)]
          unfold mUn
          by_cases h1 : 28 ≤ i ∧ i < 28 + 14
          · rw [if_pos h1, if_pos h1]
            show sI (pI (m0 S) 121 42 (nI (nd - p))) 121 (43 + 14 * (nd - p) + (i - 28)) = _
            rw [e42, if_neg (by omega)]
          · rw [if_neg h1, if_neg h1, e42]⟩⟩
      | succ m ih =>
        intro k hk S1 hE hV
        have hm1 := hmu.eq hE
        refine x_iload_n 45 2 (ab_dd tk_m_undo 27 rfl) rfl rfl rfl ?_
        refine x_bipush 47 14 (ab_dd tk_m_undo 28 rfl) rfl (by decide) ?_
        refine x_icmp_ge_f 50 (ab_dd tk_m_undo 29 rfl) rfl 85 (by decide) (by rw [show (14 : Int32) = nI 14 from rfl, nI_leI (by decide) (by omega)]; omega) ?_
        refine x_aload_n 51 0 (ab_dd tk_m_undo 30 rfl) rfl rfl rfl ?_
        refine t_getP 54 121 (ab_dd tk_m_undo 31 rfl) rfl F_m_13 (by decide) (Nat.lt_of_lt_of_le (by decide) hm1.1) (hm1.2.1 0 (by decide)) rfl (hm1.2.2 1 (by decide)) ?_
        refine x_bipush 56 28 (ab_dd tk_m_undo 32 rfl) rfl (by decide) ?_
        refine x_iload_n 57 2 (ab_dd tk_m_undo 33 rfl) rfl rfl rfl ?_
        refine x_iadd 58 (ab_dd tk_m_undo 34 rfl) rfl ?_
        refine x_aload_n 59 0 (ab_dd tk_m_undo 35 rfl) rfl rfl rfl ?_
        refine t_getP 62 121 (ab_dd tk_m_undo 36 rfl) rfl F_m_13 (by decide) (Nat.lt_of_lt_of_le (by decide) hm1.1) (hm1.2.1 0 (by decide)) rfl (hm1.2.2 1 (by decide)) ?_
        refine x_bipush 64 43 (ab_dd tk_m_undo 37 rfl) rfl (by decide) ?_
        refine x_bipush 66 14 (ab_dd tk_m_undo 38 rfl) rfl (by decide) ?_
        refine x_aload_n 67 0 (ab_dd tk_m_undo 39 rfl) rfl rfl rfl ?_
        refine t_getP 70 121 (ab_dd tk_m_undo 40 rfl) rfl F_m_13 (by decide) (Nat.lt_of_lt_of_le (by decide) hm1.1) (hm1.2.1 0 (by decide)) rfl (hm1.2.2 1 (by decide)) ?_
        refine x_bipush 72 42 (ab_dd tk_m_undo 41 rfl) rfl (by decide) ?_
        refine t_iald 73 42 (ab_dd tk_m_undo 42 rfl) rfl (by decide) (Nat.lt_of_lt_of_le (by decide) hm1.1) (hm1.2.1 1 (by decide)) (by decide) (by decide) (by decide) ?_
        refine x_imul 74 (ab_dd tk_m_undo 43 rfl) rfl ?_
        refine x_iadd 75 (ab_dd tk_m_undo 44 rfl) rfl ?_
        refine x_iload_n 76 2 (ab_dd tk_m_undo 45 rfl) rfl rfl rfl ?_
        refine x_iadd 77 (ab_dd tk_m_undo 46 rfl) rfl ?_
        refine t_iald 78 (43 + 14 * (nd - p) + k) (ab_dd tk_m_undo 47 rfl) rfl (by decide) (Nat.lt_of_lt_of_le (by decide) hm1.1) (hm1.2.1 1 (by decide)) (by rw [show sI S1 121 42 = nI (nd - p) by rw [hV 42, if_neg (by omega), e42, if_pos rfl], show (43 : Int32) = nI 43 from rfl, show (14 : Int32) = nI 14 from rfl, pk_mul, nI_add, nI_add]) (by omega) (by decide) ?_
        refine t_iast 79 (28 + k) (ab_dd tk_m_undo 48 rfl) rfl (by decide) (Nat.lt_of_lt_of_le (by decide) hm1.1) (hm1.2.1 1 (by decide)) (by rw [show (28 : Int32) = nI 28 from rfl, nI_add]) (by omega) (by decide) ?_
        refine x_iincN 82 2 1 (fun y => [some (.ref 120), some (.int u), some (.int y)]) (ab_dd tk_m_undo 49 rfl) rfl (by decide) rfl (by decide) (fun _ => rfl) (fun v1 ev1 => ?_)
        refine x_goto 44 (ab_dd tk_m_undo 50 rfl) (by decide) ?_
        have hw : v1 = nI (k + 1) := by rw [ev1, nI_1]
        subst hw
        refine ih (k + 1) (by omega) _ ?_ ?_
        · exact hE.pI (by decide)
        · intro i
          show up2 (sI S1) 121 (28 + k) _ 121 i = _
          by_cases hi : i = 28 + k
          · subst hi
            rw [up2_s, if_pos ⟨by omega, by omega⟩, show 28 + k - 28 = k by omega]
            rw [hV, if_neg (by omega)]
          · rw [up2_k hi, hV i]
            by_cases h1 : 28 ≤ i ∧ i < 28 + k
            · rw [if_pos h1, if_pos ⟨h1.1, by omega⟩]
            · rw [if_neg h1, if_neg (fun z => h1 ⟨z.1, by omega⟩)]
    exact loop 14 0 rfl _ sEq.rf (fun i => by rw [if_neg (by omega)])
  refine x_aload_n 1 0 (ab_dd tk_m_undo 0 rfl) rfl rfl rfl ?_
  refine x_iconst 2 0 (ab_dd tk_m_undo 1 rfl) rfl (by decide) ?_
  refine t_putI 5 (ab_dd tk_m_undo 2 rfl) rfl F_m_1 (by decide) (Nat.lt_of_lt_of_le (by decide) hm.1) (hm.2.1 0 (by decide)) rfl rfl rfl ?_
  refine x_iload_n 6 1 (ab_dd tk_m_undo 3 rfl) rfl rfl rfl ?_
  refine x_i2l 7 (ab_dd tk_m_undo 4 rfl) rfl ?_
  refine x_lconst 8 1 (ab_dd tk_m_undo 5 rfl) rfl (by decide) ?_
  refine x_ldc2 11 (ab_dd tk_m_undo 6 rfl) rfl C_m_262 ?_
  refine x_callS 14 M_m_within 0 3 [_, _, _] (ab_dd tk_m_undo 7 rfl) rfl (by decide) K_m_within T_m_within L_m_159 rfl (Nat.le_of_ble_eq_true rfl) (c_m_within _ _ _ _) (fun v1 w1 h1 => ?_)
  obtain ⟨rfl, rfl⟩ := h1
  refine x_if_eq 17 28 (ab_dd tk_m_undo 8 rfl) rfl (by decide) (fun h14 => ?_) (fun h14 => ?_)
  · refine x_bipush 30 (-3) (ab_dd tk_m_undo 15 rfl) rfl (by decide) ?_
    exact x_iret (ab_dd tk_m_undo 16 rfl) ⟨_, rfl, sEq.rf, Or.inr ⟨fun z => absurd h14 (by rw [if_pos ((w1_10 u).mpr ⟨z.1, Int32.le_trans z.2 (by rw [show (10 : Int32) = nI 10 from rfl]; exact nI_le hnd (by decide))⟩)]; decide), rfl, rfl⟩⟩
  · refine x_iload_n 18 1 (ab_dd tk_m_undo 9 rfl) rfl rfl rfl ?_
    refine x_aload_n 19 0 (ab_dd tk_m_undo 10 rfl) rfl rfl rfl ?_
    refine t_getP 22 121 (ab_dd tk_m_undo 11 rfl) rfl F_m_13 (by decide) (Nat.lt_of_lt_of_le (by decide) hm.1) (hm.2.1 0 (by decide)) rfl (hm.2.2 1 (by decide)) ?_
    refine x_bipush 24 42 (ab_dd tk_m_undo 12 rfl) rfl (by decide) ?_
    refine t_iald 25 42 (ab_dd tk_m_undo 13 rfl) rfl (by decide) (Nat.lt_of_lt_of_le (by decide) hm.1) (hm.2.1 1 (by decide)) (by decide) (by decide) (by decide) ?_
    refine x_icmp_le 28 31 (ab_dd tk_m_undo 14 rfl) rfl (by decide) (fun h25 => ?_) (fun h25 => ?_)
    · have hz1 : 1 ≤ u ∧ u ≤ 10 := (w1_10 u).mp (Decidable.byContradiction (fun z => h14 (if_neg z)))
      rw [show sI (m0 S) 121 42 = nI nd from hn42] at h25
      obtain ⟨p, hp10, eu⟩ := nI_of2 (M := 10) (n := 10) (by decide) (Int32.not_lt.mpr (Int32.le_trans (by decide) hz1.1)) hz1.2
      have hp1 : 1 ≤ p := by have := hz1.1; rw [eu, show (1 : Int32) = nI 1 from rfl, nI_leI (by decide) (by omega)] at this; exact this
      have hp2 : p ≤ nd := by rw [eu, nI_leI (by omega) (by omega)] at h25; exact h25
      refine x_aload_n 32 0 (ab_dd tk_m_undo 17 rfl) rfl rfl rfl ?_
      refine t_getP 35 121 (ab_dd tk_m_undo 18 rfl) rfl F_m_13 (by decide) (Nat.lt_of_lt_of_le (by decide) hm.1) (hm.2.1 0 (by decide)) rfl (hm.2.2 1 (by decide)) ?_
      refine x_bipush 37 42 (ab_dd tk_m_undo 19 rfl) rfl (by decide) ?_
      refine x_dup2 38 (ab_dd tk_m_undo 20 rfl) rfl rfl rfl ?_
      refine t_iald 39 42 (ab_dd tk_m_undo 21 rfl) rfl (by decide) (Nat.lt_of_lt_of_le (by decide) hm.1) (hm.2.1 1 (by decide)) (by decide) (by decide) (by decide) ?_
      refine x_iload_n 40 1 (ab_dd tk_m_undo 22 rfl) rfl rfl rfl ?_
      refine x_isub 41 (ab_dd tk_m_undo 23 rfl) rfl ?_
      rw [show sI (m0 S) 121 42 - u = nI (nd - p) by rw [show sI (m0 S) 121 42 = nI nd from hn42, eu, pk_sub (by omega)]]
      refine t_iast 42 42 (ab_dd tk_m_undo 24 rfl) rfl (by decide) (Nat.lt_of_lt_of_le (by decide) hm.1) (hm.2.1 1 (by decide)) (by decide) (by decide) (by decide) ?_
      refine x_iconst 43 0 (ab_dd tk_m_undo 25 rfl) rfl (by decide) ?_
      refine x_topi (fun v1 ev1 => ?_)
      refine x_istore_n 44 [some (.ref 120), some (.int u), some (.int v1)] 2 (ab_dd tk_m_undo 26 rfl) rfl rfl (by decide) rfl ?_
      subst ev1
      exact go p hp1 hp2 eu
    · refine x_bipush 30 (-3) (ab_dd tk_m_undo 15 rfl) rfl (by decide) ?_
      exact x_iret (ab_dd tk_m_undo 16 rfl) ⟨_, rfl, sEq.rf, Or.inr ⟨fun z => h25 (by rw [show sI (m0 S) 121 42 = nI nd from hn42]; exact z.2), rfl, rfl⟩⟩
