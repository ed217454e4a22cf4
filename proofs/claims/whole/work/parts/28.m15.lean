/-! ===== stop, stops, give, rug, month of the reference ===== -/
/-- the reference's row behind a call that did something: b is the row with it done -/
def mDid (S : ab_S) (b : Nat → Int32) (nd : Nat) : Nat → Int32 := mNote b (mWas S) nd
def tb_m_stop : List (Nat × Instr × Nat) := [(0, .aload_n 0, 1), (1, .iconst 0, 1), (2, .putfield 1, 3), (5, .aload_n 0, 1), (6, .aload_n 0, 1), (7, .invokevirtual 266, 3), (10, .iload_n 1, 1), (11, .i2l, 1), (12, .aload_n 0, 1), (13, .getfield 13, 3), (16, .bipush 40, 2), (18, .iaload, 1), (19, .invokevirtual 269, 3), (22, .istore_n 2, 1), (23, .iload_n 2, 1), (24, .ifCond .eq 8, 3), (27, .bipush (-10), 2), (29, .iload_n 2, 1), (30, .isub, 1), (31, .ireturn, 1), (32, .aload_n 0, 1), (33, .invokevirtual 279, 3), (36, .aload_n 0, 1), (37, .iload_n 1, 1), (38, .invokevirtual 282, 3), (41, .aload_n 0, 1), (42, .invokevirtual 285, 3), (45, .aload_n 0, 1), (46, .aload_n 0, 1), (47, .invokevirtual 266, 3), (50, .invokevirtual 288, 3), (53, .ireturn, 1)]
theorem tk_m_stop : ∀ q ∈ tb_m_stop, decode M_m_stop.2.1 q.1 = .ok q.2 := by decide +kernel
theorem c_m_stop {G : ab_G} {S : ab_S} (hm : mSh S) (hv : mV S) (hl : mLw S) (hp : mPe S) (nd : Nat) (hn42 : mA S 42 = nI nd) (hnd : nd ≤ 10) (d : Int32) : ab_C G 6 M_m_stop [.ref 120, .int d] (sw S) (fun v w' => ∃ S', w' = sw S' ∧ sEq [121, 125, 126, 127] (m0 S) S' ∧ (((if d < 0 then 1 else nI (spY (mR (m0 S)) (mMl (m0 S)) (mSea (m0 S)) (mCls (m0 S)) (mA (m0 S) 40) (mEn (m0 S) (mR (m0 S))) (cN d))) = 0 ∧ v = some (.int (nI (mLe (spS (mR (m0 S)) (mWl (m0 S)) (mSea (m0 S)) (mCls (m0 S)) (mA (m0 S) 40) (mEn (m0 S) (mR (m0 S))) (cN d)) (mR (m0 S))))) ∧ mA S' = mDid (m0 S) (up1 (mPut (mA (m0 S)) (mR (m0 S)) (spS (mR (m0 S)) (mWl (m0 S)) (mSea (m0 S)) (mCls (m0 S)) (mA (m0 S) 40) (mEn (m0 S) (mR (m0 S))) (cN d))) 41 (mA (m0 S) 41 + 1)) nd) ∨ (¬ (if d < 0 then 1 else nI (spY (mR (m0 S)) (mMl (m0 S)) (mSea (m0 S)) (mCls (m0 S)) (mA (m0 S) 40) (mEn (m0 S) (mR (m0 S))) (cN d))) = 0 ∧ v = some (.int (-10 - (if d < 0 then 1 else nI (spY (mR (m0 S)) (mMl (m0 S)) (mSea (m0 S)) (mCls (m0 S)) (mA (m0 S) 40) (mEn (m0 S) (mR (m0 S))) (cN d))))) ∧ mA S' = mA (m0 S)))) := by
  refine x_enter [some (.ref 120), some (.int d), none] (by decide) (Nat.le_of_ble_eq_true rfl) rfl (fun v w' h => by obtain ⟨S', rfl, -, h⟩ := h; rcases h with ⟨-, rfl, -⟩ | ⟨-, rfl, -⟩ <;> rfl) ?_
  have hm0 : mSh (m0 S) := hm
  have hv0 : mV (m0 S) := hv
  have hl0 : mLw (m0 S) := hl
  have hp0 : mPe (m0 S) := hp
  have hok := mEn_ok hv0 hp0
  have hR4 := hv0.1.2
  have hw : ab_C G 4 M_m_whyStop [.ref 120, .int (nI (mEn (m0 S) (mR (m0 S)))), .long (Int32.toInt64 d), .int (mA (m0 S) 40)] (sw (m0 S)) (fun v w' => ∃ S', w' = sw S' ∧ sEq [125, 126] (m0 S) S' ∧ v = some (.int (if d < 0 then 1 else nI (spY (mR (m0 S)) (mMl (m0 S)) (mSea (m0 S)) (mCls (m0 S)) (mA (m0 S) 40) (mEn (m0 S) (mR (m0 S))) (cN d))))) := by
    by_cases hd : d < 0
    · refine (c_m_whyStopN hm0 hv0 _ _ _ (i2l_neg hd)).mono (fun v w' h => ?_)
      obtain ⟨rfl, rfl⟩ := h
      exact ⟨_, rfl, sEq.rf, by rw [if_pos hd]⟩
    · obtain ⟨q, hq, e⟩ := nI_of hd
      rw [if_neg hd, e, nI_l hq, cN_nI hq]
      exact c_m_whyStop hm0 hv0 hl0 (mEn (m0 S) (mR (m0 S))) q (mA (m0 S) 40) hok.1 hok.2.1 hq
  refine x_aload_n 1 0 (ab_dd tk_m_stop 0 rfl) rfl rfl rfl ?_
  refine x_iconst 2 0 (ab_dd tk_m_stop 1 rfl) rfl (by decide) ?_
  refine t_putI 5 (ab_dd tk_m_stop 2 rfl) rfl F_m_1 (by decide) (Nat.lt_of_lt_of_le (by decide) hm.1) (hm.2.1 0 (by decide)) rfl rfl rfl ?_
  refine x_aload_n 6 0 (ab_dd tk_m_stop 3 rfl) rfl rfl rfl ?_
  refine x_aload_n 7 0 (ab_dd tk_m_stop 4 rfl) rfl rfl rfl ?_
  refine t_callV 10 M_m_standNow 1 0 [] (ab_dd tk_m_stop 5 rfl) rfl (by decide) K_m_standNow V_m_standNow.1 V_m_standNow.2 L_m_266 rfl (Nat.le_of_ble_eq_true rfl) (by decide) (Nat.lt_of_lt_of_le (by decide) hm.1) (hm.2.1 0 (by decide)) rfl (c_m_standNow hm0 hv0) (fun v1 w1 h1 => ?_)
  obtain ⟨rfl, rfl⟩ := h1
  refine x_iload_n 11 1 (ab_dd tk_m_stop 6 rfl) rfl rfl rfl ?_
  refine x_i2l 12 (ab_dd tk_m_stop 7 rfl) rfl ?_
  refine x_aload_n 13 0 (ab_dd tk_m_stop 8 rfl) rfl rfl rfl ?_
  refine t_getP 16 121 (ab_dd tk_m_stop 9 rfl) rfl F_m_13 (by decide) (Nat.lt_of_lt_of_le (by decide) hm.1) (hm.2.1 0 (by decide)) rfl (hm.2.2 1 (by decide)) ?_
  refine x_bipush 18 40 (ab_dd tk_m_stop 10 rfl) rfl (by decide) ?_
  refine t_iald 19 40 (ab_dd tk_m_stop 11 rfl) rfl (by decide) (Nat.lt_of_lt_of_le (by decide) hm.1) (hm.2.1 1 (by decide)) (by decide) (by decide) (by decide) ?_
  refine t_callV 22 M_m_whyStop 4 3 [_, _, _] (ab_dd tk_m_stop 12 rfl) rfl (by decide) K_m_whyStop V_m_whyStop.1 V_m_whyStop.2 L_m_269 rfl (Nat.le_of_ble_eq_true rfl) (by decide) (Nat.lt_of_lt_of_le (by decide) hm.1) (hm.2.1 0 (by decide)) rfl (hw) (fun v1 w1 h1 => ?_)
  obtain ⟨S1, rfl, hE1, rfl⟩ := h1
  have hm1 := hm0.eq hE1
  have hv1 := hv0.eq hE1 (by decide)
  have hq1 := mMl_eq hE1 (by decide)
  refine x_topi (fun v1 ev1 => ?_)
  refine x_istore_n 23 [some (.ref 120), some (.int d), some (.int v1)] 2 (ab_dd tk_m_stop 13 rfl) rfl rfl (by decide) rfl ?_
  refine x_iload_n 24 2 (ab_dd tk_m_stop 14 rfl) rfl rfl rfl ?_
  refine x_if_eq 27 32 (ab_dd tk_m_stop 15 rfl) rfl (by decide) (fun h24 => ?_) (fun h24 => ?_)
  · have hd : ¬ d < 0 := fun z => by rw [ev1, if_pos z] at h24; exact absurd h24 (by decide)
    have hyy := h24
    rw [ev1] at hyy
    have hy2 := hyy
    rw [if_neg hd] at hy2
    have hy : (spY (mR (m0 S)) (mMl (m0 S)) (mSea (m0 S)) (mCls (m0 S)) (mA (m0 S) 40) (mEn (m0 S) (mR (m0 S))) (cN d)) = 0 := (nI_eq (Nat.lt_trans spY_lt (by decide)) (by decide)).mp hy2
    obtain ⟨q, hq, ed⟩ := nI_of hd
    have ecd : cN d = q := by rw [ed, cN_nI hq]
    have hqq := spY_0 hy
    rw [ecd] at hqq
    refine x_aload_n 33 0 (ab_dd tk_m_stop 20 rfl) rfl rfl rfl ?_
    refine t_callV 36 M_m_stores 0 0 [] (ab_dd tk_m_stop 21 rfl) rfl (by decide) K_m_stores V_m_stores.1 V_m_stores.2 L_m_279 rfl (Nat.le_of_ble_eq_true rfl) (by decide) (Nat.lt_of_lt_of_le (by decide) hm1.1) (hm1.2.1 0 (by decide)) rfl (c_m_stores hm1) (fun v1 w1 h1 => ?_)
    obtain ⟨rfl, S2, rfl, hE2, hW2⟩ := h1
    have hm2 := hm1.eq hE2
    have hv2 := hv1.1.eq hE2 (by decide)
    have hq2 := mMl_eq hE2 (by decide)
    have eA2 : mA S2 = mA (m0 S) := hv2.2.trans hv1.2
    have hE12 := (hE1.mono (l' := [121, 125, 126, 127]) (by decide)).tr (hE2.mono (by decide))
    have hq12 := mMl_eq (l := [125, 126, 127]) ((hE1.mono (by decide)).tr (hE2.mono (by decide))) (by decide)
    have hp2 : mPe S2 := by have := hp0; unfold mPe mSt at this ⊢; rw [eA2, hq12.2.2.2.2.2]; exact this
    refine x_aload_n 37 0 (ab_dd tk_m_stop 22 rfl) rfl rfl rfl ?_
    refine x_iload_n 38 1 (ab_dd tk_m_stop 23 rfl) rfl rfl rfl ?_
    have hgo := c_m_goesStop (G := G) hm2 hv2.1 (hq12.2.2.2.2.1 hl0) hp2 q (by rw [hq12.2.2.2.2.2]; exact hqq)
    rw [← ed, hq12.2.2.2.2.2, hq12.2.2.2.1, hq12.2.1, hq12.2.2.1, eA2, mEn_cg eA2] at hgo
    refine t_callV 41 M_m_goesStop 5 1 [_] (ab_dd tk_m_stop 24 rfl) rfl (by decide) K_m_goesStop V_m_goesStop.1 V_m_goesStop.2 L_m_282 rfl (Nat.le_of_ble_eq_true rfl) (by decide) (Nat.lt_of_lt_of_le (by decide) hm2.1) (hm2.2.1 0 (by decide)) rfl (hgo) (fun v1 w1 h1 => ?_)
    obtain ⟨rfl, S3, rfl, hE3, hA3⟩ := h1
    have hm3 := hm2.eq hE3
    have hsk := spS_Ok (wl := mWl (m0 S)) (sea := mSea (m0 S)) (cls := mCls (m0 S)) (mo := mA (m0 S) 40) hR4 hok hqq
    refine x_aload_n 42 0 (ab_dd tk_m_stop 25 rfl) rfl rfl rfl ?_
    have h42 : mA S3 42 = nI nd := by
      rw [hA3, up1_o (by decide)]
      unfold mPut
      rw [if_neg (by omega), if_neg (by omega)]
      exact hn42
    refine t_callV 45 M_m_notes 0 0 [] (ab_dd tk_m_stop 26 rfl) rfl (by decide) K_m_notes V_m_notes.1 V_m_notes.2 L_m_285 rfl (Nat.le_of_ble_eq_true rfl) (by decide) (Nat.lt_of_lt_of_le (by decide) hm3.1) (hm3.2.1 0 (by decide)) rfl (c_m_notes hm3 nd h42 hnd) (fun v1 w1 h1 => ?_)
    obtain ⟨rfl, S4, rfl, hE4, hA4⟩ := h1
    have hm4 := hm3.eq hE4
    have hW3 : ∀ k, k < 14 → sI S3 127 k = mWas (m0 S) k := fun k hk => by rw [hE3.2.2.1 127 (by decide), hW2 k hk, hv1.2]; rfl
    have hA5 : mA S4 = mDid (m0 S) (up1 (mPut (mA (m0 S)) (mR (m0 S)) (spS (mR (m0 S)) (mWl (m0 S)) (mSea (m0 S)) (mCls (m0 S)) (mA (m0 S) 40) (mEn (m0 S) (mR (m0 S))) q)) 41 (mA (m0 S) 41 + 1)) nd := by
      rw [hA4, hA3]
      exact mNote_cg hW3
    have hput := mPut_ok (S' := S4) hv0 hsk.1 (fun i hi => by rw [hA5]; unfold mDid; rw [mNote_lo (by omega), up1_o (by omega)])
    refine x_aload_n 46 0 (ab_dd tk_m_stop 27 rfl) rfl rfl rfl ?_
    refine x_aload_n 47 0 (ab_dd tk_m_stop 28 rfl) rfl rfl rfl ?_
    refine t_callV 50 M_m_standNow 1 0 [] (ab_dd tk_m_stop 29 rfl) rfl (by decide) K_m_standNow V_m_standNow.1 V_m_standNow.2 L_m_266 rfl (Nat.le_of_ble_eq_true rfl) (by decide) (Nat.lt_of_lt_of_le (by decide) hm4.1) (hm4.2.1 0 (by decide)) rfl (c_m_standNow hm4 hput.1) (fun v1 w1 h1 => ?_)
    obtain ⟨rfl, rfl⟩ := h1
    rw [hput.2.2.2]
    refine t_callV 53 M_m_leastIn 2 1 [_] (ab_dd tk_m_stop 30 rfl) rfl (by decide) K_m_leastIn V_m_leastIn.1 V_m_leastIn.2 L_m_288 rfl (Nat.le_of_ble_eq_true rfl) (by decide) (Nat.lt_of_lt_of_le (by decide) hm4.1) (hm4.2.1 0 (by decide)) rfl (c_m_leastIn hm4 hput.1 (spS (mR (m0 S)) (mWl (m0 S)) (mSea (m0 S)) (mCls (m0 S)) (mA (m0 S) 40) (mEn (m0 S) (mR (m0 S))) q) hsk.1.1) (fun v1 w1 h1 => ?_)
    obtain ⟨rfl, rfl⟩ := h1
    exact x_iret (ab_dd tk_m_stop 31 rfl) ⟨S4, rfl, (hE12.tr (hE3.mono (by decide))).tr (hE4.mono (by decide)), by rw [ecd] at hyy ⊢; exact Or.inl ⟨hyy, by rw [hput.2.2.1], hA5⟩⟩
  · refine x_bipush 29 (-10) (ab_dd tk_m_stop 16 rfl) rfl (by decide) ?_
    refine x_iload_n 30 2 (ab_dd tk_m_stop 17 rfl) rfl rfl rfl ?_
    refine x_isub 31 (ab_dd tk_m_stop 18 rfl) rfl ?_
    exact x_iret (ab_dd tk_m_stop 19 rfl) ⟨S1, rfl, hE1.mono (by decide), by rw [ev1] at h24 ⊢; exact Or.inr ⟨h24, rfl, hv1.2⟩⟩
