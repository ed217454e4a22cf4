theorem mPut_id {S : ab_S} (hv : mV S) : mPut (mA S) (mR S) (mEn S (mR S)) = mA S := by
  have hd := mEn_dig hv hv.1.2
  have hR := hv.1.2
  funext i
  unfold mPut
  by_cases h : 36 ≤ i ∧ i < 36 + mR S
  · rw [if_pos h, hd.2.1 _ (by omega), if_pos (by omega), ← (hv.2.1 (i - 36) (by omega)).1.1]
    congr 1; omega
  · rw [if_neg h]
    by_cases g : 32 ≤ i ∧ i < 32 + mR S
    · rw [if_pos g, hd.2.2 _ (by omega), if_pos (by omega), ← (hv.2.1 (i - 32) (by omega)).2.1.1]
      congr 1; omega
    · rw [if_neg g]
theorem mPut_mPut {a : Nat → Int32} {n c c' : Nat} {x : Int32} : mPut (up1 (mPut a n c) 41 x) n c' = up1 (mPut a n c') 41 x ∨ 4 < n := by
  by_cases hn : 4 < n
  · exact Or.inr hn
  · refine Or.inl ?_
    funext i
    unfold mPut
    by_cases h : i = 41
    · subst h
      rw [if_neg (by omega), if_neg (by omega), up1_s, up1_s]
    · rw [up1_o h, up1_o h]
      by_cases h1 : 36 ≤ i ∧ i < 36 + n
      · rw [if_pos h1, if_pos h1]
      · rw [if_neg h1, if_neg h1, if_neg h1]
        by_cases h2 : 32 ≤ i ∧ i < 32 + n
        · rw [if_pos h2, if_pos h2]
        · rw [if_neg h2, if_neg h2, if_neg h2]
/-- k stops at which nothing is done -/
def spI (n : Nat) (wl : Option (Nat × (Nat → Int32))) (sea cls : Nat → Int32) (mo : Int32) (c : Nat) : Nat → Nat
  | 0 => c
  | k + 1 => spS n wl sea cls mo (spI n wl sea cls mo c k) 0
theorem spI_Ok {n : Nat} {wl : Option (Nat × (Nat → Int32))} {sea cls : Nat → Int32} {mo : Int32} {c : Nat} (hn : n ≤ 4) (h : mOk n c) : ∀ k, mOk n (spI n wl sea cls mo c k)
  | 0 => h
  | k + 1 => (spS_Ok hn (spI_Ok hn h k) (Or.inr rfl)).1
def tb_m_stops : List (Nat × Instr × Nat) := [(0, .aload_n 0, 1), (1, .iconst 0, 1), (2, .putfield 1, 3), (5, .iload_n 1, 1), (6, .i2l, 1), (7, .lconst 1, 1), (8, .ldc2_w 291, 3), (11, .invokestatic 159, 3), (14, .ifCond .ne 6, 3), (17, .bipush (-3), 2), (19, .ireturn, 1), (20, .aload_n 0, 1), (21, .invokevirtual 279, 3), (24, .iconst 0, 1), (25, .istore_n 2, 1), (26, .iload_n 2, 1), (27, .iload_n 1, 1), (28, .if_icmp .ge 14, 3), (31, .aload_n 0, 1), (32, .iconst 0, 1), (33, .invokevirtual 282, 3), (36, .iinc 2 1, 3), (39, .goto (-13), 3), (42, .aload_n 0, 1), (43, .invokevirtual 285, 3), (46, .aload_n 0, 1), (47, .aload_n 0, 1), (48, .invokevirtual 266, 3), (51, .invokevirtual 288, 3), (54, .ireturn, 1)]
theorem tk_m_stops : ∀ q ∈ tb_m_stops, decode M_m_stops.2.1 q.1 = .ok q.2 := by decide +kernel
theorem mLw_cg {S S' : ab_S} (h : ∀ i, (i < 28 ∨ 43 ≤ i) → mA S' i = mA S i) (hl : mLw S) : mLw S' := by
  have a2 := h 2 (by omega)
  have a3 := h 3 (by omega)
  have a4 := h (4 + 0) (by omega)
  have a5 := h (4 + 1) (by omega)
  have a6 := h (6 + 0) (by omega)
  have a7 := h (6 + 1) (by omega)
  have c0 : mCd S' 0 = mCd S 0 := by funext j; unfold mCd; rw [a4]; exact h _ (by omega)
  have c1 : mCd S' 1 = mCd S 1 := by funext j; unfold mCd; rw [a5]; exact h _ (by omega)
  have n0 : mCn S' 0 = mCn S 0 := by unfold mCn; rw [a6]
  have n1 : mCn S' 1 = mCn S 1 := by unfold mCn; rw [a7]
  unfold mLw mLo at hl ⊢
  rw [c0, c1, n0, n1, a2, a3, a4, a5, a6, a7]
  exact hl
theorem spar_cg {S S' : ab_S} (h : ∀ i, (i < 32 ∨ i = 40 ∨ 43 ≤ i) → mA S' i = mA S i) (hl : mLw S) : mWl S' = mWl S ∧ mSea S' = mSea S ∧ mCls S' = mCls S ∧ mA S' 40 = mA S 40 := by
  have a2 := h 2 (by omega)
  have a4 := h (4 + 0) (by omega)
  have a6 := h (6 + 0) (by omega)
  refine ⟨?_, ?_, ?_, h 40 (by omega)⟩
  · unfold mWl
    rw [a2]
    split
    · have c0 : mCd S' 0 = mCd S 0 := by funext j; unfold mCd; rw [a4]; exact h _ (by omega)
      have n0 : mCn S' 0 = mCn S 0 := by unfold mCn; rw [a6]
      rw [c0, n0]
    · rfl
  · funext r
    unfold mSea
    split
    · exact h _ (by omega)
    · rfl
  · funext r
    unfold mCls
    split
    · exact h _ (by omega)
    · rfl
theorem w1_99 (x : Int32) : ((1 : Int64) ≤ x.toInt64 ∧ x.toInt64 ≤ 99) ↔ (1 ≤ x ∧ x ≤ 99) := by
  rw [Int64.le_iff_toInt_le, Int64.le_iff_toInt_le, Int32.toInt_toInt64, Int32.le_iff_toInt_le, Int32.le_iff_toInt_le]
  exact Iff.rfl
theorem c_m_stops {G : ab_G} {S : ab_S} (hm : mSh S) (hv : mV S) (hl : mLw S) (hp : mPe S) (nd : Nat) (hn42 : mA S 42 = nI nd) (hnd : nd ≤ 10) (n : Int32) : ab_C G 6 M_m_stops [.ref 120, .int n] (sw S) (fun v w' => ∃ S', w' = sw S' ∧ sEq [121, 125, 126, 127] (m0 S) S' ∧ (((1 ≤ n ∧ n ≤ 99) ∧ v = some (.int (nI (mLe (spI (mR (m0 S)) (mWl (m0 S)) (mSea (m0 S)) (mCls (m0 S)) (mA (m0 S) 40) (mEn (m0 S) (mR (m0 S))) (cN n)) (mR (m0 S))))) ∧ mA S' = mDid (m0 S) (up1 (mPut (mA (m0 S)) (mR (m0 S)) (spI (mR (m0 S)) (mWl (m0 S)) (mSea (m0 S)) (mCls (m0 S)) (mA (m0 S) 40) (mEn (m0 S) (mR (m0 S))) (cN n))) 41 (mA (m0 S) 41 + n)) nd) ∨ (¬ (1 ≤ n ∧ n ≤ 99) ∧ v = some (.int (-3)) ∧ mA S' = mA (m0 S)))) := by
  refine x_enter [some (.ref 120), some (.int n), none] (by decide) (Nat.le_of_ble_eq_true rfl) rfl (fun v w' h => by obtain ⟨S', rfl, -, h⟩ := h; rcases h with ⟨-, rfl, -⟩ | ⟨-, rfl, -⟩ <;> rfl) ?_
  have hm0 : mSh (m0 S) := hm
  have hv0 : mV (m0 S) := hv
  have hl0 : mLw (m0 S) := hl
  have hp0 : mPe (m0 S) := hp
  have hok := mEn_ok hv0 hp0
  have hR4 := hv0.1.2
  have go : ∀ u : Nat, 1 ≤ u → u ≤ 99 → n = nI u → ∀ S2 : ab_S, sEq [127] (m0 S) S2 → (∀ k, k < 14 → sI S2 127 k = mWas (m0 S) k) → ab_Ex G 6 M_m_stops 26 [some (.ref 120), some (.int n), some (.int (nI 0))] [] (sw S2) (fun v w' => ∃ S', w' = sw S' ∧ sEq [121, 125, 126, 127] (m0 S) S' ∧ (((1 ≤ n ∧ n ≤ 99) ∧ v = some (.int (nI (mLe (spI (mR (m0 S)) (mWl (m0 S)) (mSea (m0 S)) (mCls (m0 S)) (mA (m0 S) 40) (mEn (m0 S) (mR (m0 S))) (cN n)) (mR (m0 S))))) ∧ mA S' = mDid (m0 S) (up1 (mPut (mA (m0 S)) (mR (m0 S)) (spI (mR (m0 S)) (mWl (m0 S)) (mSea (m0 S)) (mCls (m0 S)) (mA (m0 S) 40) (mEn (m0 S) (mR (m0 S))) (cN n))) 41 (mA (m0 S) 41 + n)) nd) ∨ (¬ (1 ≤ n ∧ n ≤ 99) ∧ v = some (.int (-3)) ∧ mA S' = mA (m0 S)))) := by
    intro u hu1 hu2 en S2 hE2 hW2
    have hm2 := hm0.eq hE2
    have hv2 := hv0.eq hE2 (by decide)
    have hsi := fun k => spI_Ok (wl := mWl (m0 S)) (sea := mSea (m0 S)) (cls := mCls (m0 S)) (mo := mA (m0 S) 40) hR4 hok k
    have loop : ∀ (m k : Nat), k + m = u → ∀ S1 : ab_S, sEq [121, 125, 126] S2 S1 → mA S1 = up1 (mPut (mA (m0 S)) (mR (m0 S)) (spI (mR (m0 S)) (mWl (m0 S)) (mSea (m0 S)) (mCls (m0 S)) (mA (m0 S) 40) (mEn (m0 S) (mR (m0 S))) k)) 41 (mA (m0 S) 41 + nI k) → ab_Ex G 6 M_m_stops 26 [some (.ref 120), some (.int n), some (.int (nI k))] [] (sw S1) (fun v w' => ∃ S', w' = sw S' ∧ sEq [121, 125, 126, 127] (m0 S) S' ∧ (((1 ≤ n ∧ n ≤ 99) ∧ v = some (.int (nI (mLe (spI (mR (m0 S)) (mWl (m0 S)) (mSea (m0 S)) (mCls (m0 S)) (mA (m0 S) 40) (mEn (m0 S) (mR (m0 S))) (cN n)) (mR (m0 S))))) ∧ mA S' = mDid (m0 S) (up1 (mPut (mA (m0 S)) (mR (m0 S)) (spI (mR (m0 S)) (mWl (m0 S)) (mSea (m0 S)) (mCls (m0 S)) (mA (m0 S) 40) (mEn (m0 S) (mR (m0 S))) (cN n))) 41 (mA (m0 S) 41 + n)) nd) ∨ (¬ (1 ≤ n ∧ n ≤ 99) ∧ v = some (.int (-3)) ∧ mA S' = mA (m0 S)))) := by
      intro m
      induction m with
      | zero =>
        intro k hk S1 hE hA1
        have hm1 := hm2.eq hE
        have hput := mPut_ok (S' := S1) hv0 (hsi k) (fun i hi => by rw [hA1, up1_o (by omega)])
        refine x_iload_n 27 2 (ab_dd tk_m_stops 15 rfl) rfl rfl rfl ?_
        refine x_iload_n 28 1 (ab_dd tk_m_stops 16 rfl) rfl rfl rfl ?_
        refine x_icmp_ge_t 42 (ab_dd tk_m_stops 17 rfl) (by decide) (by rw [en]; exact nI_le (by omega) (by omega)) ?_
        refine x_aload_n 43 0 (ab_dd tk_m_stops 23 rfl) rfl rfl rfl ?_
        have h42 : mA S1 42 = nI nd := by
          rw [hA1, up1_o (by decide)]
          unfold mPut
          rw [if_neg (by omega), if_neg (by omega)]
          exact hn42
        refine t_callV 46 M_m_notes 0 0 [] (ab_dd tk_m_stops 24 rfl) rfl (by decide) K_m_notes V_m_notes.1 V_m_notes.2 L_m_285 rfl (Nat.le_of_ble_eq_true rfl) (by decide) (Nat.lt_of_lt_of_le (by decide) hm1.1) (hm1.2.1 0 (by decide)) rfl (c_m_notes hm1 nd h42 hnd) (fun v1 w1 h1 => ?_)
        obtain ⟨rfl, S4, rfl, hE4, hA4⟩ := h1
        have hm4 := hm1.eq hE4
        have hW3 : ∀ k, k < 14 → sI S1 127 k = mWas (m0 S) k := fun k hk => by rw [hE.2.2.1 127 (by decide), hW2 k hk]
        have hA5 : mA S4 = mDid (m0 S) (up1 (mPut (mA (m0 S)) (mR (m0 S)) (spI (mR (m0 S)) (mWl (m0 S)) (mSea (m0 S)) (mCls (m0 S)) (mA (m0 S) 40) (mEn (m0 S) (mR (m0 S))) k)) 41 (mA (m0 S) 41 + nI k)) nd := by
          rw [hA4, hA1]
          exact mNote_cg hW3
        have hput4 := mPut_ok (S' := S4) hv0 (hsi k) (fun i hi => by rw [hA5]; unfold mDid; rw [mNote_lo (by omega), up1_o (by omega)])
        refine x_aload_n 47 0 (ab_dd tk_m_stops 25 rfl) rfl rfl rfl ?_
        refine x_aload_n 48 0 (ab_dd tk_m_stops 26 rfl) rfl rfl rfl ?_
        refine t_callV 51 M_m_standNow 1 0 [] (ab_dd tk_m_stops 27 rfl) rfl (by decide) K_m_standNow V_m_standNow.1 V_m_standNow.2 L_m_266 rfl (Nat.le_of_ble_eq_true rfl) (by decide) (Nat.lt_of_lt_of_le (by decide) hm4.1) (hm4.2.1 0 (by decide)) rfl (c_m_standNow hm4 hput4.1) (fun v1 w1 h1 => ?_)
        obtain ⟨rfl, rfl⟩ := h1
        rw [hput4.2.2.2]
        refine t_callV 54 M_m_leastIn 2 1 [_] (ab_dd tk_m_stops 28 rfl) rfl (by decide) K_m_leastIn V_m_leastIn.1 V_m_leastIn.2 L_m_288 rfl (Nat.le_of_ble_eq_true rfl) (by decide) (Nat.lt_of_lt_of_le (by decide) hm4.1) (hm4.2.1 0 (by decide)) rfl (c_m_leastIn hm4 hput4.1 (spI (mR (m0 S)) (mWl (m0 S)) (mSea (m0 S)) (mCls (m0 S)) (mA (m0 S) 40) (mEn (m0 S) (mR (m0 S))) k) (hsi k).1) (fun v1 w1 h1 => ?_)
        obtain ⟨rfl, rfl⟩ := h1
        exact x_iret (ab_dd tk_m_stops 29 rfl) ⟨S4, rfl, ((hE2.mono (by decide)).tr (hE.mono (by decide))).tr (hE4.mono (by decide)), Or.inl ⟨by rw [en, show (1 : Int32) = nI 1 from rfl, show (99 : Int32) = nI 99 from rfl, nI_leI (by decide) (by omega), nI_leI (by omega) (by decide)]; exact ⟨hu1, hu2⟩, by rw [hput4.2.2.1, en, cN_nI (by omega), show u = k by omega], by rw [hA5, en, cN_nI (by omega), show u = k by omega]⟩⟩
      | succ m ih =>
        intro k hk S1 hE hA1
        have hm1 := hm2.eq hE
        have hput := mPut_ok (S' := S1) hv0 (hsi k) (fun i hi => by rw [hA1, up1_o (by omega)])
        refine x_iload_n 27 2 (ab_dd tk_m_stops 15 rfl) rfl rfl rfl ?_
        refine x_iload_n 28 1 (ab_dd tk_m_stops 16 rfl) rfl rfl rfl ?_
        refine x_icmp_ge_f 31 (ab_dd tk_m_stops 17 rfl) rfl 42 (by decide) (by rw [en, nI_ge_iff (by omega) (by omega)]; omega) ?_
        refine x_aload_n 32 0 (ab_dd tk_m_stops 18 rfl) rfl rfl rfl ?_
        refine x_iconst 33 0 (ab_dd tk_m_stops 19 rfl) rfl (by decide) ?_
        have hl1 : mLw S1 := by
          have e : ∀ i, (i < 28 ∨ 43 ≤ i) → mA S1 i = mA (m0 S) i := fun i hi => by
            rw [hA1, up1_o (by omega)]
            unfold mPut
            rw [if_neg (by omega), if_neg (by omega)]
          exact mLw_cg e hl0
        have hq1 := spar_cg (S := m0 S) (S' := S1) (fun i hi => by
            rw [hA1, up1_o (by omega)]
            unfold mPut
            rw [if_neg (by omega), if_neg (by omega)]) hl0
        have hgo := c_m_goesStop (G := G) hm1 hput.1 hl1 hput.2.1 0 (Or.inr rfl)
        rw [hput.2.2.2, hput.2.2.1, hq1.1, hq1.2.1, hq1.2.2.1, hq1.2.2.2] at hgo
        refine t_callV 36 M_m_goesStop 5 1 [_] (ab_dd tk_m_stops 20 rfl) rfl (by decide) K_m_goesStop V_m_goesStop.1 V_m_goesStop.2 L_m_282 rfl (Nat.le_of_ble_eq_true rfl) (by decide) (Nat.lt_of_lt_of_le (by decide) hm1.1) (hm1.2.1 0 (by decide)) rfl (hgo) (fun v1 w1 h1 => ?_)
        obtain ⟨rfl, S3, rfl, hE3, hA3⟩ := h1
        refine x_iincN 39 2 1 (fun y => [some (.ref 120), some (.int n), some (.int y)]) (ab_dd tk_m_stops 21 rfl) rfl (by decide) rfl (by decide) (fun _ => rfl) (fun v1 ev1 => ?_)
        refine x_goto 26 (ab_dd tk_m_stops 22 rfl) (by decide) ?_
        have hw : v1 = nI (k + 1) := by rw [ev1, nI_1]
        subst hw
        refine ih (k + 1) (by omega) S3 (hE.tr hE3) ?_
        rw [hA3, hA1, mPut_mPut.resolve_right (by omega)]
        funext i
        by_cases h : i = 41
        · subst h
          rw [up1_s, up1_s, up1_s, Int32.add_assoc, nI_1]
        · rw [up1_o h, up1_o h, up1_o h]
          rfl
    exact loop u 0 (by omega) S2 sEq.rf (by
      rw [show spI _ _ _ _ _ (mEn (m0 S) (mR (m0 S))) 0 = (mEn (m0 S) (mR (m0 S))) from rfl, mPut_id hv0, hv2.2]
      funext i
      by_cases h : i = 41
      · subst h; rw [up1_s]; exact (Int32.add_zero _).symm
      · rw [up1_o h])
  refine x_aload_n 1 0 (ab_dd tk_m_stops 0 rfl) rfl rfl rfl ?_
  refine x_iconst 2 0 (ab_dd tk_m_stops 1 rfl) rfl (by decide) ?_
  refine t_putI 5 (ab_dd tk_m_stops 2 rfl) rfl F_m_1 (by decide) (Nat.lt_of_lt_of_le (by decide) hm.1) (hm.2.1 0 (by decide)) rfl rfl rfl ?_
  refine x_iload_n 6 1 (ab_dd tk_m_stops 3 rfl) rfl rfl rfl ?_
  refine x_i2l 7 (ab_dd tk_m_stops 4 rfl) rfl ?_
  refine x_lconst 8 1 (ab_dd tk_m_stops 5 rfl) rfl (by decide) ?_
  refine x_ldc2 11 (ab_dd tk_m_stops 6 rfl) rfl C_m_291 ?_
  refine x_callS 14 M_m_within 0 3 [_, _, _] (ab_dd tk_m_stops 7 rfl) rfl (by decide) K_m_within T_m_within L_m_159 rfl (Nat.le_of_ble_eq_true rfl) (c_m_within _ _ _ _) (fun v1 w1 h1 => ?_)
  obtain ⟨rfl, rfl⟩ := h1
  refine x_if_ne 17 20 (ab_dd tk_m_stops 8 rfl) rfl (by decide) (fun h14 => ?_) (fun h14 => ?_)
  · refine x_aload_n 21 0 (ab_dd tk_m_stops 11 rfl) rfl rfl rfl ?_
    refine t_callV 24 M_m_stores 0 0 [] (ab_dd tk_m_stops 12 rfl) rfl (by decide) K_m_stores V_m_stores.1 V_m_stores.2 L_m_279 rfl (Nat.le_of_ble_eq_true rfl) (by decide) (Nat.lt_of_lt_of_le (by decide) hm.1) (hm.2.1 0 (by decide)) rfl (c_m_stores hm0) (fun v1 w1 h1 => ?_)
    obtain ⟨rfl, S2, rfl, hE2, hW2⟩ := h1
    refine x_iconst 25 0 (ab_dd tk_m_stops 13 rfl) rfl (by decide) ?_
    refine x_topi (fun v1 ev1 => ?_)
    refine x_istore_n 26 [some (.ref 120), some (.int n), some (.int v1)] 2 (ab_dd tk_m_stops 14 rfl) rfl rfl (by decide) rfl ?_
    have hz : 1 ≤ n ∧ n ≤ 99 := Decidable.byContradiction (fun z => h14 (if_neg (fun y => z ((w1_99 n).mp y))))
    obtain ⟨u, hu, en⟩ := nI_of2 (M := 99) (n := 99) (by decide) (Int32.not_lt.mpr (Int32.le_trans (by decide) hz.1)) hz.2
    have hu1 : 1 ≤ u := by have := hz.1; rw [en, show (1 : Int32) = nI 1 from rfl, nI_leI (by decide) (by omega)] at this; exact this
    subst ev1
    exact go u hu1 hu en S2 hE2 hW2
  · refine x_bipush 19 (-3) (ab_dd tk_m_stops 9 rfl) rfl (by decide) ?_
    exact x_iret (ab_dd tk_m_stops 10 rfl) ⟨_, rfl, sEq.rf, Or.inr ⟨fun z => absurd h14 (by rw [if_pos ((w1_99 n).mpr z)]; decide), rfl, rfl⟩⟩
