/-! ===== whyStop, stopTo ===== -/
/-- every seat of n has its rider -/
def mPm (n c : Nat) : Prop := ∀ s, s < n → mSit n c s < n
theorem mSit_se {n c s : Nat} (h : mSit n c s < n) : mSe c (mSit n c s) = s := by
  have := sFirst_yes (fun r => mSe c r == s) n 0 (by rw [Nat.zero_add]; exact h)
  simpa [mSit] using this
theorem sit_N {n c s : Nat} (h : mSit n c s < n) : (if mSit n c s < n then nI (mSit n c s) else -1) = nI (mSit n c s) := if_pos h
/-- why a stop can't be -/
def spY (n : Nat) (ml : Option (Nat × (Nat → Int32))) (sea cls : Nat → Int32) (mo : Int32) (c q : Nat) : Nat := if q = 0 then 0 else if n ≤ q then 1 else if spM ml sea cls mo c (mSit n c (q - 1)) (nI q) = true ∧ spM ml sea cls mo c (mSit n c q) (nI (q - 1)) = true then 0 else 2
theorem mMl_eq {l : List Nat} {S S1 : ab_S} (hE : sEq l S S1) (hl : 121 ∉ l) : mMl S1 = mMl S ∧ mSea S1 = mSea S ∧ mCls S1 = mCls S ∧ mWl S1 = mWl S ∧ (mLw S → mLw S1) ∧ mR S1 = mR S := by
  have e : mA S1 = mA S := hE.2.2.1 121 hl
  refine ⟨?_, ?_, ?_, ?_, ?_, ?_⟩
  · unfold mMl mCn mCd; rw [e]
  · unfold mSea; rw [e]
  · unfold mCls; rw [e]
  · unfold mWl mCn mCd; rw [e]
  · intro h
    unfold mLw mLo mCn mCd at h ⊢
    rw [e]; exact h
  · unfold mR; rw [e]
def tb_m_whyStop : List (Nat × Instr × Nat) := [(0, .lload_n 2, 1), (1, .lconst 0, 1), (2, .lcmp, 1), (3, .ifCond .ne 5, 3), (6, .iconst 0, 1), (7, .ireturn, 1), (8, .lload_n 2, 1), (9, .lconst 1, 1), (10, .aload_n 0, 1), (11, .getfield 13, 3), (14, .iconst 1, 1), (15, .iaload, 1), (16, .iconst 1, 1), (17, .isub, 1), (18, .i2l, 1), (19, .invokestatic 159, 3), (22, .ifCond .ne 5, 3), (25, .iconst 1, 1), (26, .ireturn, 1), (27, .lload_n 2, 1), (28, .l2i, 1), (29, .istore 5, 2), (31, .aload_n 0, 1), (32, .iload_n 1, 1), (33, .aload_n 0, 1), (34, .iload_n 1, 1), (35, .iload 5, 2), (37, .iconst 1, 1), (38, .isub, 1), (39, .invokevirtual 245, 3), (42, .iload 5, 2), (44, .iload 4, 2), (46, .invokevirtual 248, 3), (49, .ifCond .eq 28, 3), (52, .aload_n 0, 1), (53, .iload_n 1, 1), (54, .aload_n 0, 1), (55, .iload_n 1, 1), (56, .iload 5, 2), (58, .invokevirtual 245, 3), (61, .iload 5, 2), (63, .iconst 1, 1), (64, .isub, 1), (65, .iload 4, 2), (67, .invokevirtual 248, 3), (70, .ifCond .eq 7, 3), (73, .iconst 0, 1), (74, .goto 4, 3), (77, .iconst 2, 1), (78, .ireturn, 1)]
theorem tk_m_whyStop : ∀ q ∈ tb_m_whyStop, decode M_m_whyStop.2.1 q.1 = .ok q.2 := by decide +kernel
theorem c_m_whyStop {G : ab_G} {S : ab_S} (hm : mSh S) (hv : mV S) (hl : mLw S) (c q : Nat) (mo : Int32) (hc : c < 160000) (hp : mPm (mR S) c) (hq : q < 2 ^ 31) : ab_C G 4 M_m_whyStop [.ref 120, .int (nI c), .long (lN q), .int mo] (sw S) (fun v w' => ∃ S', w' = sw S' ∧ sEq [125, 126] S S' ∧ v = some (.int (nI (spY (mR S) (mMl S) (mSea S) (mCls S) mo c q)))) := by
  refine x_enter [some (.ref 120), some (.int (nI c)), some (.long (lN q)), none, some (.int mo), none] (by decide) (Nat.le_of_ble_eq_true rfl) rfl (fun v w' h => by obtain ⟨S', rfl, -, rfl⟩ := h; rfl) ?_
  have hR4 := hv.1.2
  have hin : q ≠ 0 → (if (1 : Int64) ≤ lN q ∧ lN q ≤ (sI S 121 1 - 1).toInt64 then (1 : Int32) else 0) = if q < mR S then 1 else 0 := by
    intro hnq
    rw [show sI S 121 1 = nI (mR S) from hv.1.1]
    by_cases h0 : mR S = 0
    · rw [h0, if_neg (Nat.not_lt_zero q), if_neg]
      intro z
      have h1 : ((nI 0 - 1).toInt64 : Int64) = -1 := by decide
      rw [h1] at z
      have h2 := (Int64.le_iff_toInt_le.mp z.2)
      rw [lN_toInt hq, show (-1 : Int64).toInt = -1 by decide] at h2
      omega
    · rw [show (1 : Int32) = nI 1 from rfl, pk_sub (by omega), nI_l (by omega)]
      by_cases z : q < mR S
      · rw [if_pos z, if_pos ⟨(lN_le (a := 1) (by decide) hq).mpr (by omega), (lN_le hq (by omega)).mpr (by omega)⟩]
      · rw [if_neg z, if_neg (fun y => by have := (lN_le hq (by omega)).mp y.2; omega)]
  refine x_lload_n 1 2 (ab_dd tk_m_whyStop 0 rfl) rfl rfl rfl ?_
  refine x_lconst 2 0 (ab_dd tk_m_whyStop 1 rfl) rfl (by decide) ?_
  refine x_lcmp 3 (ab_dd tk_m_whyStop 2 rfl) rfl ?_
  refine x_if_ne 6 8 (ab_dd tk_m_whyStop 3 rfl) rfl (by decide) (fun h3 => ?_) (fun h3 => ?_)
  · refine x_lload_n 9 2 (ab_dd tk_m_whyStop 6 rfl) rfl rfl rfl ?_
    refine x_lconst 10 1 (ab_dd tk_m_whyStop 7 rfl) rfl (by decide) ?_
    refine x_aload_n 11 0 (ab_dd tk_m_whyStop 8 rfl) rfl rfl rfl ?_
    refine t_getP 14 121 (ab_dd tk_m_whyStop 9 rfl) rfl F_m_13 (by decide) (Nat.lt_of_lt_of_le (by decide) hm.1) (hm.2.1 0 (by decide)) rfl (hm.2.2 1 (by decide)) ?_
    refine x_iconst 15 1 (ab_dd tk_m_whyStop 10 rfl) rfl (by decide) ?_
    refine t_iald 16 1 (ab_dd tk_m_whyStop 11 rfl) rfl (by decide) (Nat.lt_of_lt_of_le (by decide) hm.1) (hm.2.1 1 (by decide)) (by decide) (by decide) (by decide) ?_
    refine x_iconst 17 1 (ab_dd tk_m_whyStop 12 rfl) rfl (by decide) ?_
    refine x_isub 18 (ab_dd tk_m_whyStop 13 rfl) rfl ?_
    refine x_i2l 19 (ab_dd tk_m_whyStop 14 rfl) rfl ?_
    refine x_callS 22 M_m_within 0 3 [_, _, _] (ab_dd tk_m_whyStop 15 rfl) rfl (by decide) K_m_within T_m_within L_m_159 rfl (Nat.le_of_ble_eq_true rfl) (w_within _ _ _) (fun v1 w1 h1 => ?_)
    obtain ⟨rfl, rfl⟩ := h1
    have hin := hin (fun e => h3 ((lg_cmp_eq _ _).mpr (by rw [e]; rfl)))
    refine x_if_ne 25 27 (ab_dd tk_m_whyStop 16 rfl) rfl (by decide) (fun h22 => ?_) (fun h22 => ?_)
    · refine x_lload_n 28 2 (ab_dd tk_m_whyStop 19 rfl) rfl rfl rfl ?_
      refine x_l2i 29 (ab_dd tk_m_whyStop 20 rfl) rfl ?_
      refine x_topi (fun v1 ev1 => ?_)
      refine x_istore 31 [some (.ref 120), some (.int (nI c)), some (.long (lN q)), none, some (.int mo), some (.int v1)] 5 (ab_dd tk_m_whyStop 21 rfl) rfl (by decide) rfl ?_
      have hnq : q ≠ 0 := fun e => h3 ((lg_cmp_eq _ _).mpr (by rw [e]; rfl))
      rw [hin] at h22
      have hqR : q < mR S := by
        by_cases z : q < mR S
        · exact z
        · simp [z] at h22
      have hvv : v1 = nI q := by rw [ev1, lN_i]
      subst hvv
      refine x_aload_n 32 0 (ab_dd tk_m_whyStop 22 rfl) rfl rfl rfl ?_
      refine x_iload_n 33 1 (ab_dd tk_m_whyStop 23 rfl) rfl rfl rfl ?_
      refine x_aload_n 34 0 (ab_dd tk_m_whyStop 24 rfl) rfl rfl rfl ?_
      refine x_iload_n 35 1 (ab_dd tk_m_whyStop 25 rfl) rfl rfl rfl ?_
      refine x_iload 37 5 (ab_dd tk_m_whyStop 26 rfl) rfl rfl ?_
      refine x_iconst 38 1 (ab_dd tk_m_whyStop 27 rfl) rfl (by decide) ?_
      refine x_isub 39 (ab_dd tk_m_whyStop 28 rfl) rfl ?_
      rw [show (nI q - 1 : Int32) = nI (q - 1) by rw [show (1 : Int32) = nI 1 from rfl, pk_sub (by omega)]]
      refine t_callV 42 M_m_sitting 1 2 [_, _] (ab_dd tk_m_whyStop 29 rfl) rfl (by decide) K_m_sitting V_m_sitting.1 V_m_sitting.2 L_m_245 rfl (Nat.le_of_ble_eq_true rfl) (by decide) (Nat.lt_of_lt_of_le (by decide) hm.1) (hm.2.1 0 (by decide)) rfl (c_m_sitting hm hv c (q - 1) hc (by omega)) (fun v1 w1 h1 => ?_)
      obtain ⟨rfl, rfl⟩ := h1
      rw [sit_N (hp _ (by omega))]
      refine x_iload 44 5 (ab_dd tk_m_whyStop 30 rfl) rfl rfl ?_
      refine x_iload 46 4 (ab_dd tk_m_whyStop 31 rfl) rfl rfl ?_
      refine t_callV 49 M_m_mayGo 3 4 [_, _, _, _] (ab_dd tk_m_whyStop 32 rfl) rfl (by decide) K_m_mayGo V_m_mayGo.1 V_m_mayGo.2 L_m_248 rfl (Nat.le_of_ble_eq_true rfl) (by decide) (Nat.lt_of_lt_of_le (by decide) hm.1) (hm.2.1 0 (by decide)) rfl (c_m_mayGo hm hl c _ _ mo hc (by have := hp (q - 1) (by omega); omega)) (fun v1 w1 h1 => ?_)
      obtain ⟨S4, rfl, hE4, rfl⟩ := h1
      have hm4 := hm.eq hE4
      have hv4 := (hv.eq hE4 (by decide)).1
      obtain ⟨eM, eS, eC, -, hl4, hR4e⟩ := mMl_eq hE4 (by decide : 121 ∉ [125, 126])
      refine x_if_eq 52 77 (ab_dd tk_m_whyStop 33 rfl) rfl (by decide) (fun h49 => ?_) (fun h49 => ?_)
      · refine x_iconst 78 2 (ab_dd tk_m_whyStop 48 rfl) rfl (by decide) ?_
        exact x_iret (ab_dd tk_m_whyStop 49 rfl) ⟨S4, rfl, hE4, by
          unfold spY
          rw [if_neg (by omega), if_neg (by omega), if_neg (fun z => by rw [if_pos z.1] at h49; exact absurd h49 (by decide))]; rfl⟩
      · refine x_aload_n 53 0 (ab_dd tk_m_whyStop 34 rfl) rfl rfl rfl ?_
        refine x_iload_n 54 1 (ab_dd tk_m_whyStop 35 rfl) rfl rfl rfl ?_
        refine x_aload_n 55 0 (ab_dd tk_m_whyStop 36 rfl) rfl rfl rfl ?_
        refine x_iload_n 56 1 (ab_dd tk_m_whyStop 37 rfl) rfl rfl rfl ?_
        refine x_iload 58 5 (ab_dd tk_m_whyStop 38 rfl) rfl rfl ?_
        refine t_callV 61 M_m_sitting 1 2 [_, _] (ab_dd tk_m_whyStop 39 rfl) rfl (by decide) K_m_sitting V_m_sitting.1 V_m_sitting.2 L_m_245 rfl (Nat.le_of_ble_eq_true rfl) (by decide) (Nat.lt_of_lt_of_le (by decide) hm4.1) (hm4.2.1 0 (by decide)) rfl (c_m_sitting hm4 hv4 c q hc (by omega)) (fun v1 w1 h1 => ?_)
        obtain ⟨rfl, rfl⟩ := h1
        rw [hR4e, sit_N (hp _ (by omega))]
        refine x_iload 63 5 (ab_dd tk_m_whyStop 40 rfl) rfl rfl ?_
        refine x_iconst 64 1 (ab_dd tk_m_whyStop 41 rfl) rfl (by decide) ?_
        refine x_isub 65 (ab_dd tk_m_whyStop 42 rfl) rfl ?_
        rw [show (nI q - 1 : Int32) = nI (q - 1) by rw [show (1 : Int32) = nI 1 from rfl, pk_sub (by omega)]]
        refine x_iload 67 4 (ab_dd tk_m_whyStop 43 rfl) rfl rfl ?_
        refine t_callV 70 M_m_mayGo 3 4 [_, _, _, _] (ab_dd tk_m_whyStop 44 rfl) rfl (by decide) K_m_mayGo V_m_mayGo.1 V_m_mayGo.2 L_m_248 rfl (Nat.le_of_ble_eq_true rfl) (by decide) (Nat.lt_of_lt_of_le (by decide) hm4.1) (hm4.2.1 0 (by decide)) rfl (c_m_mayGo hm4 (hl4 hl) c _ _ mo hc (by have := hp q (by omega); omega)) (fun v1 w1 h1 => ?_)
        obtain ⟨S5, rfl, hE5, rfl⟩ := h1
        rw [eM, eS, eC] at *
        refine x_if_eq 73 77 (ab_dd tk_m_whyStop 45 rfl) rfl (by decide) (fun h70 => ?_) (fun h70 => ?_)
        · refine x_iconst 78 2 (ab_dd tk_m_whyStop 48 rfl) rfl (by decide) ?_
          exact x_iret (ab_dd tk_m_whyStop 49 rfl) ⟨S5, rfl, hE4.tr hE5, by
            unfold spY
            rw [if_neg (by omega), if_neg (by omega), if_neg (fun z => by rw [if_pos z.2] at h70; exact absurd h70 (by decide))]; rfl⟩
        · refine x_iconst 74 0 (ab_dd tk_m_whyStop 46 rfl) rfl (by decide) ?_
          refine x_goto 78 (ab_dd tk_m_whyStop 47 rfl) (by decide) ?_
          exact x_iret (ab_dd tk_m_whyStop 49 rfl) ⟨S5, rfl, hE4.tr hE5, by
            unfold spY
            rw [if_neg (by omega), if_neg (by omega), if_pos ⟨Decidable.byContradiction (fun z => h49 (if_neg z)), Decidable.byContradiction (fun z => h70 (if_neg z))⟩]; rfl⟩
    · refine x_iconst 26 1 (ab_dd tk_m_whyStop 17 rfl) rfl (by decide) ?_
      exact x_iret (ab_dd tk_m_whyStop 18 rfl) ⟨S, rfl, sEq.rf, by
        have hnq : q ≠ 0 := fun e => h3 ((lg_cmp_eq _ _).mpr (by rw [e]; rfl))
        rw [hin] at h22
        unfold spY
        rw [if_neg hnq, if_pos (by by_cases z : q < mR S <;> simp [z] at h22 <;> omega)]; rfl⟩
  · refine x_iconst 7 0 (ab_dd tk_m_whyStop 4 rfl) rfl (by decide) ?_
    exact x_iret (ab_dd tk_m_whyStop 5 rfl) ⟨S, rfl, sEq.rf, by rw [show q = 0 from (lN_eq hq (by decide)).mp ((lg_cmp_eq _ _).mp h3)]; rfl⟩
