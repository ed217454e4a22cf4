/-! ===== rider, by, stop, stops of the reference ===== -/
theorem rid_get {r : Int32} {n : Nat} (h : 0 ≤ r ∧ cN r < n) (hn : n ≤ 4) : ∃ q, q < n ∧ r = nI q ∧ cN r = q := by
  obtain ⟨q, hq, e⟩ := nI_of (Int32.not_lt.mpr h.1)
  have : cN r = q := by rw [e, cN_nI hq]
  exact ⟨q, by omega, e, this⟩
theorem spY_0 {n : Nat} {ml : Option (Nat × (Nat → Int32))} {sea cls : Nat → Int32} {mo : Int32} {c q : Nat} (h : spY n ml sea cls mo c q = 0) : q < n ∨ q = 0 := by
  unfold spY at h
  by_cases h0 : q = 0
  · exact Or.inr h0
  · rw [if_neg h0] at h
    by_cases h1 : n ≤ q
    · rw [if_pos h1] at h; cases h
    · exact Or.inl (by omega)
theorem spY_lt {n : Nat} {ml : Option (Nat × (Nat → Int32))} {sea cls : Nat → Int32} {mo : Int32} {c q : Nat} : spY n ml sea cls mo c q < 3 := by
  unfold spY
  repeat' split
  all_goals decide
def tb_m_by : List (Nat × Instr × Nat) := [(0, .aload_n 0, 1), (1, .iconst 0, 1), (2, .putfield 1, 3), (5, .aload_n 0, 1), (6, .iload_n 2, 1), (7, .i2l, 1), (8, .invokevirtual 258, 3), (11, .ifCond .ne 6, 3), (14, .bipush (-2), 2), (16, .ireturn, 1), (17, .aload_n 0, 1), (18, .aload_n 0, 1), (19, .invokevirtual 266, 3), (22, .iload_n 1, 1), (23, .i2l, 1), (24, .aload_n 0, 1), (25, .getfield 13, 3), (28, .bipush 40, 2), (30, .iaload, 1), (31, .invokevirtual 269, 3), (34, .ifCond .eq 8, 3), (37, .bipush (-5), 2), (39, .goto 23, 3), (42, .aload_n 0, 1), (43, .aload_n 0, 1), (44, .invokevirtual 266, 3), (47, .iload_n 1, 1), (48, .aload_n 0, 1), (49, .getfield 13, 3), (52, .bipush 40, 2), (54, .iaload, 1), (55, .invokevirtual 273, 3), (58, .iload_n 2, 1), (59, .invokestatic 228, 3), (62, .ireturn, 1)]
theorem tk_m_by : ∀ q ∈ tb_m_by, decode M_m_by.2.1 q.1 = .ok q.2 := by decide +kernel
theorem c_m_by {G : ab_G} {S : ab_S} (hm : mSh S) (hv : mV S) (hl : mLw S) (hp : mPe S) (d r : Int32) : ab_C G 5 M_m_by [.ref 120, .int d, .int r] (sw S) (fun v w' => ∃ S', w' = sw S' ∧ sEq [125, 126] (m0 S) S' ∧ v = some (.int (if 0 ≤ r ∧ cN r < mR (m0 S) then (if d < 0 ∨ (spY (mR (m0 S)) (mMl (m0 S)) (mSea (m0 S)) (mCls (m0 S)) (mA (m0 S) 40) (mEn (m0 S) (mR (m0 S))) (cN d)) ≠ 0 then -5 else nI (mWa (spS (mR (m0 S)) (mWl (m0 S)) (mSea (m0 S)) (mCls (m0 S)) (mA (m0 S) 40) (mEn (m0 S) (mR (m0 S))) (cN d)) (cN r))) else -2))) := by
  refine x_enter [some (.ref 120), some (.int d), some (.int r)] (by decide) (Nat.le_of_ble_eq_true rfl) rfl (fun v w' h => by obtain ⟨S', rfl, -, rfl⟩ := h; repeat' split <;> rfl) ?_
  have hm0 : mSh (m0 S) := hm
  have hv0 : mV (m0 S) := hv
  have hl0 : mLw (m0 S) := hl
  have hp0 : mPe (m0 S) := hp
  have hok := mEn_ok hv0 hp0
  have hR4 := hv0.1.2
  have hw : ab_C G 4 M_m_whyStop [.ref 120, .int (nI (mEn (m0 S) (mR (m0 S)))), .long (Int32.toInt64 d), .int (mA (m0 S) 40)] (sw (m0 S)) (fun v w' => ∃ S', w' = sw S' ∧ sEq [125, 126] (m0 S) S' ∧ v = some (.int (if d < 0 then 1 else nI (spY (mR (m0 S)) (mMl (m0 S)) (mSea (m0 S)) (mCls (m0 S)) (mA (m0 S) 40) (mEn (m0 S) (mR (m0 S))) (cN d))))) := by
    by_cases hd : d < 0
    · refine (c_m_whyStopN hm0 hv0 _ _ _ (i2l_neg hd)).mono (fun v w' h => ?_)
      obtain ⟨rfl, rfl⟩ := h
      exact ⟨_, rfl, sEq.rf, by rw [if_pos hd]⟩
    · obtain ⟨q, hq, e⟩ := nI_of hd
      rw [if_neg hd, e, nI_l hq, cN_nI hq]
      exact c_m_whyStop hm0 hv0 hl0 (mEn (m0 S) (mR (m0 S))) q (mA (m0 S) 40) hok.1 hok.2.1 hq
  refine x_aload_n 1 0 (ab_dd tk_m_by 0 rfl) rfl rfl rfl ?_
  refine x_iconst 2 0 (ab_dd tk_m_by 1 rfl) rfl (by decide) ?_
  refine t_putI 5 (ab_dd tk_m_by 2 rfl) rfl F_m_1 (by decide) (Nat.lt_of_lt_of_le (by decide) hm.1) (hm.2.1 0 (by decide)) rfl rfl rfl ?_
  refine x_aload_n 6 0 (ab_dd tk_m_by 3 rfl) rfl rfl rfl ?_
  refine x_iload_n 7 2 (ab_dd tk_m_by 4 rfl) rfl rfl rfl ?_
  refine x_i2l 8 (ab_dd tk_m_by 5 rfl) rfl ?_
  refine t_callV 11 M_m_isRider 1 1 [_] (ab_dd tk_m_by 6 rfl) rfl (by decide) K_m_isRider V_m_isRider.1 V_m_isRider.2 L_m_258 rfl (Nat.le_of_ble_eq_true rfl) (by decide) (Nat.lt_of_lt_of_le (by decide) hm.1) (hm.2.1 0 (by decide)) rfl (c_m_isRiderI hm0 hv0 _) (fun v1 w1 h1 => ?_)
  obtain ⟨rfl, rfl⟩ := h1
  refine x_if_ne 14 17 (ab_dd tk_m_by 7 rfl) rfl (by decide) (fun h11 => ?_) (fun h11 => ?_)
  · have hz : 0 ≤ r ∧ cN r < mR (m0 S) := Decidable.byContradiction (fun z => h11 (if_neg z))
    refine x_aload_n 18 0 (ab_dd tk_m_by 10 rfl) rfl rfl rfl ?_
    refine x_aload_n 19 0 (ab_dd tk_m_by 11 rfl) rfl rfl rfl ?_
    refine t_callV 22 M_m_standNow 1 0 [] (ab_dd tk_m_by 12 rfl) rfl (by decide) K_m_standNow V_m_standNow.1 V_m_standNow.2 L_m_266 rfl (Nat.le_of_ble_eq_true rfl) (by decide) (Nat.lt_of_lt_of_le (by decide) hm.1) (hm.2.1 0 (by decide)) rfl (c_m_standNow hm0 hv0) (fun v1 w1 h1 => ?_)
    obtain ⟨rfl, rfl⟩ := h1
    refine x_iload_n 23 1 (ab_dd tk_m_by 13 rfl) rfl rfl rfl ?_
    refine x_i2l 24 (ab_dd tk_m_by 14 rfl) rfl ?_
    refine x_aload_n 25 0 (ab_dd tk_m_by 15 rfl) rfl rfl rfl ?_
    refine t_getP 28 121 (ab_dd tk_m_by 16 rfl) rfl F_m_13 (by decide) (Nat.lt_of_lt_of_le (by decide) hm.1) (hm.2.1 0 (by decide)) rfl (hm.2.2 1 (by decide)) ?_
    refine x_bipush 30 40 (ab_dd tk_m_by 17 rfl) rfl (by decide) ?_
    refine t_iald 31 40 (ab_dd tk_m_by 18 rfl) rfl (by decide) (Nat.lt_of_lt_of_le (by decide) hm.1) (hm.2.1 1 (by decide)) (by decide) (by decide) (by decide) ?_
    refine t_callV 34 M_m_whyStop 4 3 [_, _, _] (ab_dd tk_m_by 19 rfl) rfl (by decide) K_m_whyStop V_m_whyStop.1 V_m_whyStop.2 L_m_269 rfl (Nat.le_of_ble_eq_true rfl) (by decide) (Nat.lt_of_lt_of_le (by decide) hm.1) (hm.2.1 0 (by decide)) rfl (hw) (fun v1 w1 h1 => ?_)
    obtain ⟨S1, rfl, hE1, rfl⟩ := h1
    have hm1 := hm0.eq hE1
    have hv1 := hv0.eq hE1 (by decide)
    have hq1 := mMl_eq hE1 (by decide)
    refine x_if_eq 37 42 (ab_dd tk_m_by 20 rfl) rfl (by decide) (fun h34 => ?_) (fun h34 => ?_)
    · have hd : ¬ d < 0 := fun z => by rw [if_pos z] at h34; exact absurd h34 (by decide)
      rw [if_neg hd] at h34
      have hy : (spY (mR (m0 S)) (mMl (m0 S)) (mSea (m0 S)) (mCls (m0 S)) (mA (m0 S) 40) (mEn (m0 S) (mR (m0 S))) (cN d)) = 0 := (nI_eq (Nat.lt_trans spY_lt (by decide)) (by decide)).mp h34
      obtain ⟨q, hq, ed⟩ := nI_of hd
      have ecd : cN d = q := by rw [ed, cN_nI hq]
      have hqq := spY_0 hy
      rw [ecd] at hqq
      obtain ⟨rq, hrq, er, ecr⟩ := rid_get hz hR4
      have eC : mEn S1 (mR S1) = (mEn (m0 S) (mR (m0 S))) := by rw [mEn_cg hv1.2, hq1.2.2.2.2.2]
      refine x_aload_n 43 0 (ab_dd tk_m_by 23 rfl) rfl rfl rfl ?_
      refine x_aload_n 44 0 (ab_dd tk_m_by 24 rfl) rfl rfl rfl ?_
      refine t_callV 47 M_m_standNow 1 0 [] (ab_dd tk_m_by 25 rfl) rfl (by decide) K_m_standNow V_m_standNow.1 V_m_standNow.2 L_m_266 rfl (Nat.le_of_ble_eq_true rfl) (by decide) (Nat.lt_of_lt_of_le (by decide) hm1.1) (hm1.2.1 0 (by decide)) rfl (c_m_standNow hm1 hv1.1) (fun v1 w1 h1 => ?_)
      obtain ⟨rfl, rfl⟩ := h1
      refine x_iload_n 48 1 (ab_dd tk_m_by 26 rfl) rfl rfl rfl ?_
      refine x_aload_n 49 0 (ab_dd tk_m_by 27 rfl) rfl rfl rfl ?_
      refine t_getP 52 121 (ab_dd tk_m_by 28 rfl) rfl F_m_13 (by decide) (Nat.lt_of_lt_of_le (by decide) hm1.1) (hm1.2.1 0 (by decide)) rfl (hm1.2.2 1 (by decide)) ?_
      refine x_bipush 54 40 (ab_dd tk_m_by 29 rfl) rfl (by decide) ?_
      refine t_iald 55 40 (ab_dd tk_m_by 30 rfl) rfl (by decide) (Nat.lt_of_lt_of_le (by decide) hm1.1) (hm1.2.1 1 (by decide)) (by decide) (by decide) (by decide) ?_
      have hst := c_m_stopTo (G := G) hm1 hv1.1 (hq1.2.2.2.2.1 hl0) (mEn (m0 S) (mR (m0 S))) q (mA (m0 S) 40) hok.1 (by rw [hq1.2.2.2.2.2]; exact hok.2.1) (by rw [hq1.2.2.2.2.2]; exact hqq)
      rw [← ed, hq1.2.2.2.2.2, hq1.2.2.2.1, hq1.2.1, hq1.2.2.1] at hst
      rw [eC, show sI S1 121 40 = mA (m0 S) 40 from congrFun hv1.2 40]
      refine t_callV 58 M_m_stopTo 4 3 [_, _, _] (ab_dd tk_m_by 31 rfl) rfl (by decide) K_m_stopTo V_m_stopTo.1 V_m_stopTo.2 L_m_273 rfl (Nat.le_of_ble_eq_true rfl) (by decide) (Nat.lt_of_lt_of_le (by decide) hm1.1) (hm1.2.1 0 (by decide)) rfl (hst) (fun v1 w1 h1 => ?_)
      obtain ⟨S2, rfl, hE2, rfl⟩ := h1
      refine x_iload_n 59 2 (ab_dd tk_m_by 32 rfl) rfl rfl rfl ?_
      rw [er]
      refine x_callS 62 M_m_warmthIn 1 2 [_, _] (ab_dd tk_m_by 33 rfl) rfl (by decide) K_m_warmthIn T_m_warmthIn L_m_228 rfl (Nat.le_of_ble_eq_true rfl) (w_warmthIn _ (spS (mR (m0 S)) (mWl (m0 S)) (mSea (m0 S)) (mCls (m0 S)) (mA (m0 S) 40) (mEn (m0 S) (mR (m0 S))) q) rq (spS_Ok hR4 hok hqq).1.1 (by omega)) (fun v1 w1 h1 => ?_)
      obtain ⟨rfl, rfl⟩ := h1
      exact x_iret (ab_dd tk_m_by 34 rfl) ⟨S2, rfl, hE1.tr hE2, by rw [← er, if_pos hz, if_neg (fun z => z.elim hd (fun y => y hy)), ecr, ecd]⟩
    · refine x_bipush 39 (-5) (ab_dd tk_m_by 21 rfl) rfl (by decide) ?_
      refine x_goto 62 (ab_dd tk_m_by 22 rfl) (by decide) ?_
      exact x_iret (ab_dd tk_m_by 34 rfl) ⟨S1, rfl, hE1, by
        rw [if_pos hz, if_pos]
        by_cases z : d < 0
        · exact Or.inl z
        · rw [if_neg z] at h34
          exact Or.inr (fun e => h34 (by rw [e]; rfl))⟩
  · refine x_bipush 16 (-2) (ab_dd tk_m_by 8 rfl) rfl (by decide) ?_
    exact x_iret (ab_dd tk_m_by 9 rfl) ⟨_, rfl, sEq.rf, by rw [if_neg (fun z => absurd h11 (by rw [if_pos z]; decide))]⟩
def tb_m_rider : List (Nat × Instr × Nat) := [(0, .aload_n 0, 1), (1, .iconst 0, 1), (2, .putfield 1, 3), (5, .aload_n 0, 1), (6, .iload_n 1, 1), (7, .i2l, 1), (8, .invokevirtual 258, 3), (11, .ifCond .ne 6, 3), (14, .bipush (-2), 2), (16, .ireturn, 1), (17, .iload_n 2, 1), (18, .i2l, 1), (19, .ldc2_w 262, 3), (22, .ldc2_w 264, 3), (25, .invokestatic 159, 3), (28, .ifCond .eq 20, 3), (31, .aload_n 0, 1), (32, .getfield 13, 3), (35, .bipush 12, 2), (37, .iconst 4, 1), (38, .iload_n 1, 1), (39, .imul, 1), (40, .iadd, 1), (41, .iload_n 2, 1), (42, .iadd, 1), (43, .bipush 10, 2), (45, .isub, 1), (46, .iaload, 1), (47, .ireturn, 1), (48, .iload_n 2, 1), (49, .tableswitch 71 0 3 #[31, 41, 51, 61], 31), (80, .aload_n 0, 1), (81, .getfield 13, 3), (84, .bipush 28, 2), (86, .iload_n 1, 1), (87, .iadd, 1), (88, .iaload, 1), (89, .ireturn, 1), (90, .aload_n 0, 1), (91, .getfield 13, 3), (94, .bipush 8, 2), (96, .iload_n 1, 1), (97, .iadd, 1), (98, .iaload, 1), (99, .ireturn, 1), (100, .aload_n 0, 1), (101, .getfield 13, 3), (104, .bipush 32, 2), (106, .iload_n 1, 1), (107, .iadd, 1), (108, .iaload, 1), (109, .ireturn, 1), (110, .aload_n 0, 1), (111, .getfield 13, 3), (114, .bipush 36, 2), (116, .iload_n 1, 1), (117, .iadd, 1), (118, .iaload, 1), (119, .ireturn, 1), (120, .bipush (-2), 2), (122, .ireturn, 1)]
theorem tk_m_rider : ∀ q ∈ tb_m_rider, decode M_m_rider.2.1 q.1 = .ok q.2 := by decide +kernel
/-- what rider() tells of the reference's row -/
def mRd (a : Nat → Int32) (n : Nat) (r what : Int32) : Int32 := if 0 ≤ r ∧ cN r < n then (if 10 ≤ what ∧ what ≤ 13 then a (12 + 4 * cN r + (cN what - 10)) else if what = 0 then a (28 + cN r) else if what = 1 then a (8 + cN r) else if what = 2 then a (32 + cN r) else if what = 3 then a (36 + cN r) else -2) else -2
theorem w10_13 (x : Int32) : ((10 : Int64) ≤ x.toInt64 ∧ x.toInt64 ≤ 13) ↔ (10 ≤ x ∧ x ≤ 13) := by
  rw [Int64.le_iff_toInt_le, Int64.le_iff_toInt_le, Int32.toInt_toInt64, Int32.le_iff_toInt_le, Int32.le_iff_toInt_le]
  exact Iff.rfl
theorem c_m_rider {G : ab_G} {S : ab_S} (hm : mSh S) (hv : mV S) (hl : mLw S) (hp : mPe S) (r what : Int32) : ab_C G 2 M_m_rider [.ref 120, .int r, .int what] (sw S) (fun v w' => w' = sw (m0 S) ∧ v = some (.int (mRd (mA (m0 S)) (mR (m0 S)) r what))) := by
  refine x_enter [some (.ref 120), some (.int r), some (.int what)] (by decide) (Nat.le_of_ble_eq_true rfl) rfl (fun v w' h => by obtain ⟨rfl, rfl⟩ := h; rfl) ?_
  have hm0 : mSh (m0 S) := hm
  have hv0 : mV (m0 S) := hv
  have hl0 : mLw (m0 S) := hl
  have hp0 : mPe (m0 S) := hp
  have hok := mEn_ok hv0 hp0
  have hR4 := hv0.1.2
  refine x_aload_n 1 0 (ab_dd tk_m_rider 0 rfl) rfl rfl rfl ?_
  refine x_iconst 2 0 (ab_dd tk_m_rider 1 rfl) rfl (by decide) ?_
  refine t_putI 5 (ab_dd tk_m_rider 2 rfl) rfl F_m_1 (by decide) (Nat.lt_of_lt_of_le (by decide) hm.1) (hm.2.1 0 (by decide)) rfl rfl rfl ?_
  refine x_aload_n 6 0 (ab_dd tk_m_rider 3 rfl) rfl rfl rfl ?_
  refine x_iload_n 7 1 (ab_dd tk_m_rider 4 rfl) rfl rfl rfl ?_
  refine x_i2l 8 (ab_dd tk_m_rider 5 rfl) rfl ?_
  refine t_callV 11 M_m_isRider 1 1 [_] (ab_dd tk_m_rider 6 rfl) rfl (by decide) K_m_isRider V_m_isRider.1 V_m_isRider.2 L_m_258 rfl (Nat.le_of_ble_eq_true rfl) (by decide) (Nat.lt_of_lt_of_le (by decide) hm.1) (hm.2.1 0 (by decide)) rfl (c_m_isRiderI hm0 hv0 _) (fun v1 w1 h1 => ?_)
  obtain ⟨rfl, rfl⟩ := h1
  refine x_if_ne 14 17 (ab_dd tk_m_rider 7 rfl) rfl (by decide) (fun h11 => ?_) (fun h11 => ?_)
  · have hz : 0 ≤ r ∧ cN r < mR (m0 S) := Decidable.byContradiction (fun z => h11 (if_neg z))
    obtain ⟨q, hq, er, ecr⟩ := rid_get hz hR4
    refine x_iload_n 18 2 (ab_dd tk_m_rider 10 rfl) rfl rfl rfl ?_
    refine x_i2l 19 (ab_dd tk_m_rider 11 rfl) rfl ?_
    refine x_ldc2 22 (ab_dd tk_m_rider 12 rfl) rfl C_m_262 ?_
    refine x_ldc2 25 (ab_dd tk_m_rider 13 rfl) rfl C_m_264 ?_
    refine x_callS 28 M_m_within 0 3 [_, _, _] (ab_dd tk_m_rider 14 rfl) rfl (by decide) K_m_within T_m_within L_m_159 rfl (Nat.le_of_ble_eq_true rfl) (c_m_within _ _ _ _) (fun v1 w1 h1 => ?_)
    obtain ⟨rfl, rfl⟩ := h1
    refine x_if_eq 31 48 (ab_dd tk_m_rider 15 rfl) rfl (by decide) (fun h28 => ?_) (fun h28 => ?_)
    · have hn28 : ¬ (10 ≤ what ∧ what ≤ 13) := fun z => absurd h28 (by rw [if_pos ((w10_13 what).mpr z)]; decide)
      refine x_iload_n 49 2 (ab_dd tk_m_rider 29 rfl) rfl rfl rfl ?_
      by_cases hT49 : (0 : Int) ≤ Int32.toInt what ∧ Int32.toInt what ≤ (3 : Int)
      · have hc49 : Int32.toInt what = (0 : Int) ∨ Int32.toInt what = (1 : Int) ∨ Int32.toInt what = (2 : Int) ∨ Int32.toInt what = (3 : Int) := by omega
        rcases hc49 with hc49 | hc49 | hc49 | hc49
        · refine x_tableIn 80 (ab_dd tk_m_rider 30 rfl) (by omega) (by omega) (by rw [hc49]; rfl) (by decide) ?_
          refine x_aload_n 81 0 (ab_dd tk_m_rider 31 rfl) rfl rfl rfl ?_
          refine t_getP 84 121 (ab_dd tk_m_rider 32 rfl) rfl F_m_13 (by decide) (Nat.lt_of_lt_of_le (by decide) hm.1) (hm.2.1 0 (by decide)) rfl (hm.2.2 1 (by decide)) ?_
          refine x_bipush 86 28 (ab_dd tk_m_rider 33 rfl) rfl (by decide) ?_
          refine x_iload_n 87 1 (ab_dd tk_m_rider 34 rfl) rfl rfl rfl ?_
          refine x_iadd 88 (ab_dd tk_m_rider 35 rfl) rfl ?_
          refine t_iald 89 (28 + q) (ab_dd tk_m_rider 36 rfl) rfl (by decide) (Nat.lt_of_lt_of_le (by decide) hm.1) (hm.2.1 1 (by decide)) (by rw [er, show (28 : Int32) = nI 28 from rfl, nI_add]) (by omega) (by decide) ?_
          exact x_iret (ab_dd tk_m_rider 37 rfl) ⟨rfl, by unfold mRd; rw [if_pos hz, if_neg hn28, if_pos (of_toInt hc49), ecr]⟩
        · refine x_tableIn 90 (ab_dd tk_m_rider 30 rfl) (by omega) (by omega) (by rw [hc49]; rfl) (by decide) ?_
          refine x_aload_n 91 0 (ab_dd tk_m_rider 38 rfl) rfl rfl rfl ?_
          refine t_getP 94 121 (ab_dd tk_m_rider 39 rfl) rfl F_m_13 (by decide) (Nat.lt_of_lt_of_le (by decide) hm.1) (hm.2.1 0 (by decide)) rfl (hm.2.2 1 (by decide)) ?_
          refine x_bipush 96 8 (ab_dd tk_m_rider 40 rfl) rfl (by decide) ?_
          refine x_iload_n 97 1 (ab_dd tk_m_rider 41 rfl) rfl rfl rfl ?_
          refine x_iadd 98 (ab_dd tk_m_rider 42 rfl) rfl ?_
          refine t_iald 99 (8 + q) (ab_dd tk_m_rider 43 rfl) rfl (by decide) (Nat.lt_of_lt_of_le (by decide) hm.1) (hm.2.1 1 (by decide)) (by rw [er, show (8 : Int32) = nI 8 from rfl, nI_add]) (by omega) (by decide) ?_
          exact x_iret (ab_dd tk_m_rider 44 rfl) ⟨rfl, by unfold mRd; rw [if_pos hz, if_neg hn28, if_neg (by rw [of_toInt (y := 1) hc49]; decide), if_pos (of_toInt hc49), ecr]⟩
        · refine x_tableIn 100 (ab_dd tk_m_rider 30 rfl) (by omega) (by omega) (by rw [hc49]; rfl) (by decide) ?_
          refine x_aload_n 101 0 (ab_dd tk_m_rider 45 rfl) rfl rfl rfl ?_
          refine t_getP 104 121 (ab_dd tk_m_rider 46 rfl) rfl F_m_13 (by decide) (Nat.lt_of_lt_of_le (by decide) hm.1) (hm.2.1 0 (by decide)) rfl (hm.2.2 1 (by decide)) ?_
          refine x_bipush 106 32 (ab_dd tk_m_rider 47 rfl) rfl (by decide) ?_
          refine x_iload_n 107 1 (ab_dd tk_m_rider 48 rfl) rfl rfl rfl ?_
          refine x_iadd 108 (ab_dd tk_m_rider 49 rfl) rfl ?_
          refine t_iald 109 (32 + q) (ab_dd tk_m_rider 50 rfl) rfl (by decide) (Nat.lt_of_lt_of_le (by decide) hm.1) (hm.2.1 1 (by decide)) (by rw [er, show (32 : Int32) = nI 32 from rfl, nI_add]) (by omega) (by decide) ?_
          exact x_iret (ab_dd tk_m_rider 51 rfl) ⟨rfl, by unfold mRd; rw [if_pos hz, if_neg hn28, if_neg (by rw [of_toInt (y := 2) hc49]; decide), if_neg (by rw [of_toInt (y := 2) hc49]; decide), if_pos (of_toInt hc49), ecr]⟩
        · refine x_tableIn 110 (ab_dd tk_m_rider 30 rfl) (by omega) (by omega) (by rw [hc49]; rfl) (by decide) ?_
          refine x_aload_n 111 0 (ab_dd tk_m_rider 52 rfl) rfl rfl rfl ?_
          refine t_getP 114 121 (ab_dd tk_m_rider 53 rfl) rfl F_m_13 (by decide) (Nat.lt_of_lt_of_le (by decide) hm.1) (hm.2.1 0 (by decide)) rfl (hm.2.2 1 (by decide)) ?_
          refine x_bipush 116 36 (ab_dd tk_m_rider 54 rfl) rfl (by decide) ?_
          refine x_iload_n 117 1 (ab_dd tk_m_rider 55 rfl) rfl rfl rfl ?_
          refine x_iadd 118 (ab_dd tk_m_rider 56 rfl) rfl ?_
          refine t_iald 119 (36 + q) (ab_dd tk_m_rider 57 rfl) rfl (by decide) (Nat.lt_of_lt_of_le (by decide) hm.1) (hm.2.1 1 (by decide)) (by rw [er, show (36 : Int32) = nI 36 from rfl, nI_add]) (by omega) (by decide) ?_
          exact x_iret (ab_dd tk_m_rider 58 rfl) ⟨rfl, by unfold mRd; rw [if_pos hz, if_neg hn28, if_neg (by rw [of_toInt (y := 3) hc49]; decide), if_neg (by rw [of_toInt (y := 3) hc49]; decide), if_neg (by rw [of_toInt (y := 3) hc49]; decide), if_pos (of_toInt hc49), ecr]⟩
      · refine x_tableOut 120 (ab_dd tk_m_rider 30 rfl) (by omega) (by decide) ?_
        refine x_bipush 122 (-2) (ab_dd tk_m_rider 59 rfl) rfl (by decide) ?_
        exact x_iret (ab_dd tk_m_rider 60 rfl) ⟨rfl, by unfold mRd; rw [if_pos hz, if_neg hn28, if_neg (fun e => hT49 (by rw [e]; decide)), if_neg (fun e => hT49 (by rw [e]; decide)), if_neg (fun e => hT49 (by rw [e]; decide)), if_neg (fun e => hT49 (by rw [e]; decide))]⟩
    · have hw : 10 ≤ what ∧ what ≤ 13 := Decidable.byContradiction (fun z => h28 (if_neg (fun y => z ((w10_13 what).mp y))))
      obtain ⟨u, hu, ew⟩ := nI_of2 (M := 13) (n := 13) (by decide) (Int32.not_lt.mpr (Int32.le_trans (by decide) hw.1)) hw.2
      have ew2 : cN what = u := by rw [ew, cN_nI (by omega)]
      have hu10 : 10 ≤ u := by have := hw.1; rw [ew, show (10 : Int32) = nI 10 from rfl, nI_leI (by decide) (by omega)] at this; exact this
      refine x_aload_n 32 0 (ab_dd tk_m_rider 16 rfl) rfl rfl rfl ?_
      refine t_getP 35 121 (ab_dd tk_m_rider 17 rfl) rfl F_m_13 (by decide) (Nat.lt_of_lt_of_le (by decide) hm.1) (hm.2.1 0 (by decide)) rfl (hm.2.2 1 (by decide)) ?_
      refine x_bipush 37 12 (ab_dd tk_m_rider 18 rfl) rfl (by decide) ?_
      refine x_iconst 38 4 (ab_dd tk_m_rider 19 rfl) rfl (by decide) ?_
      refine x_iload_n 39 1 (ab_dd tk_m_rider 20 rfl) rfl rfl rfl ?_
      refine x_imul 40 (ab_dd tk_m_rider 21 rfl) rfl ?_
      refine x_iadd 41 (ab_dd tk_m_rider 22 rfl) rfl ?_
      refine x_iload_n 42 2 (ab_dd tk_m_rider 23 rfl) rfl rfl rfl ?_
      refine x_iadd 43 (ab_dd tk_m_rider 24 rfl) rfl ?_
      refine x_bipush 45 10 (ab_dd tk_m_rider 25 rfl) rfl (by decide) ?_
      refine x_isub 46 (ab_dd tk_m_rider 26 rfl) rfl ?_
      refine t_iald 47 (12 + 4 * q + (u - 10)) (ab_dd tk_m_rider 27 rfl) rfl (by decide) (Nat.lt_of_lt_of_le (by decide) hm.1) (hm.2.1 1 (by decide)) (by rw [er, ew, show (4 : Int32) = nI 4 from rfl, show (12 : Int32) = nI 12 from rfl, show (10 : Int32) = nI 10 from rfl, pk_mul, nI_add, nI_add, pk_sub (by omega)]; congr 1; omega) (by omega) (by decide) ?_
      exact x_iret (ab_dd tk_m_rider 28 rfl) ⟨rfl, by unfold mRd; rw [if_pos hz, if_pos hw, ecr, ew2]⟩
  · refine x_bipush 16 (-2) (ab_dd tk_m_rider 8 rfl) rfl (by decide) ?_
    exact x_iret (ab_dd tk_m_rider 9 rfl) ⟨rfl, by unfold mRd; rw [if_neg (fun z => absurd h11 (by rw [if_pos z]; decide))]⟩
