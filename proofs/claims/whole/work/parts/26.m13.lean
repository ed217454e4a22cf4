/-! ===== public calls of the reference: why, seat, stop, stops ===== -/
theorem mPut_ok {S S' : ab_S} (hv : mV S) {c : Nat} (hok : mOk (mR S) c) (hA : ∀ i, i < 41 → mA S' i = mPut (mA S) (mR S) c i) : mV S' ∧ mPe S' ∧ mR S' = mR S ∧ mEn S' (mR S') = c := by
  have hR := hv.1.2
  have e1 : mA S' 1 = mA S 1 := by rw [hA 1 (by decide)]; unfold mPut; rw [if_neg (by omega), if_neg (by omega)]
  have eR : mR S' = mR S := by unfold mR; rw [e1]
  have eS : ∀ r, r < 4 → mA S' (36 + r) = if r < mR S then nI (mSe c r) else mA S (36 + r) := by
    intro r hr
    rw [hA _ (by omega)]
    unfold mPut
    by_cases h : r < mR S
    · rw [if_pos ⟨by omega, by omega⟩, if_pos h, show 36 + r - 36 = r by omega]
    · rw [if_neg (by omega), if_neg h, if_neg (by omega)]
  have eW : ∀ r, r < 4 → mA S' (32 + r) = if r < mR S then nI (mWa c r) else mA S (32 + r) := by
    intro r hr
    rw [hA _ (by omega)]
    unfold mPut
    by_cases h : r < mR S
    · rw [if_neg (by omega), if_pos ⟨by omega, by omega⟩, if_pos h, show 32 + r - 32 = r by omega]
    · rw [if_neg (by omega), if_neg h, if_neg (by omega)]
  have eN : ∀ r, r < 4 → mA S' (28 + r) = mA S (28 + r) := by
    intro r hr
    rw [hA _ (by omega)]
    unfold mPut
    rw [if_neg (by omega), if_neg (by omega)]
  have eM : mA S' 40 = mA S 40 := by rw [hA 40 (by decide)]; unfold mPut; rw [if_neg (by omega), if_neg (by omega)]
  have hS : ∀ r, r < 4 → mA S' (36 + r) = nI (mSt S' r) ∧ mSt S' r = if r < mR S then mSe c r else mSt S r := by
    intro r hr
    have h4 := mSe_lt c r
    have : mSt S' r = if r < mR S then mSe c r else mSt S r := by
      unfold mSt
      rw [eS r hr]
      split
      · exact cN_nI (by omega)
      · rfl
    refine ⟨?_, this⟩
    rw [this, eS r hr]
    split
    · rfl
    · exact (hv.2.1 r hr).1.1
  have hW : ∀ r, r < 4 → mA S' (32 + r) = nI (mWm S' r) ∧ mWm S' r = if r < mR S then mWa c r else mWm S r := by
    intro r hr
    have h4 := mWa_lt c r
    have : mWm S' r = if r < mR S then mWa c r else mWm S r := by
      unfold mWm
      rw [eW r hr]
      split
      · exact cN_nI (by omega)
      · rfl
    refine ⟨?_, this⟩
    rw [this, eW r hr]
    split
    · rfl
    · exact (hv.2.1 r hr).2.1.1
  have hV' : mV S' := by
    refine ⟨⟨by rw [eR, e1]; exact hv.1.1, by rw [eR]; exact hR⟩, fun r hr => ⟨⟨(hS r hr).1, ?_⟩, ⟨(hW r hr).1, ?_⟩, ?_⟩, ?_⟩
    · rw [(hS r hr).2]
      have := mSe_lt c r
      have := (hv.2.1 r hr).1.2
      split <;> omega
    · rw [(hW r hr).2]
      have := mWa_lt c r
      have := (hv.2.1 r hr).2.1.2
      split <;> omega
    · have := (hv.2.1 r hr).2.2
      unfold mSn at this ⊢
      rw [eN r hr]; exact this
    · have := hv.2.2
      unfold mMo at this ⊢
      rw [eM]; exact this
  refine ⟨hV', ⟨fun s hs => ?_, fun r hr => ?_⟩, eR, ?_⟩
  · rw [eR] at hs ⊢
    have h1 := hok.2.1 s hs
    refine ⟨mSit (mR S) c s, h1, ?_⟩
    rw [(hS _ (by omega)).2, if_pos h1]
    exact mSit_se h1
  · rw [eR] at hr ⊢
    rw [(hS r (by omega)).2, if_pos hr]
    exact hok.2.2.2 r hr
  · rw [eR]
    have hd := mEn_dig hV' hR
    refine mC_ext hd.1 hok.1 (fun r hr => ?_) (fun r hr => ?_)
    · rw [hd.2.1 r hr]
      by_cases h : r < mR S
      · rw [if_pos h, (hS r hr).2, if_pos h]
      · rw [if_neg h, (hok.2.2.1 r hr (by omega)).1]
    · rw [hd.2.2 r hr]
      by_cases h : r < mR S
      · rw [if_pos h, (hW r hr).2, if_pos h]
      · rw [if_neg h, (hok.2.2.1 r hr (by omega)).2]
theorem mNote_cg {a w w' : Nat → Int32} {n : Nat} (h : ∀ k, k < 14 → w k = w' k) : mNote a w n = mNote a w' n := by
  funext i
  unfold mNote
  by_cases h0 : i = 42
  · rw [if_pos h0, if_pos h0]
  · rw [if_neg h0, if_neg h0]
    generalize (if n = 10 then 9 else n) = t
    by_cases h1 : 43 + 14 * t ≤ i ∧ i < 43 + 14 * t + 14
    · rw [if_pos h1, if_pos h1]
      exact h _ (by omega)
    · rw [if_neg h1, if_neg h1]
/-- with thrown() told anew -/
abbrev m0 (S : ab_S) : ab_S := pI S 120 0 0
theorem mEn_cg {S S' : ab_S} (h : mA S' = mA S) : ∀ n, mEn S' n = mEn S n
  | 0 => rfl
  | n + 1 => by
    show mEn S' n + _ = mEn S n + _
    rw [mEn_cg h n]
    unfold mSt mWm
    rw [h]
def mWas (S : ab_S) : Nat → Int32 := fun k => mA S (28 + k)
theorem mNote_lo {a w : Nat → Int32} {n i : Nat} (h : i < 42) : mNote a w n i = a i := by
  unfold mNote
  rw [if_neg (by omega), if_neg (by omega), if_neg (by omega)]
theorem i2l_neg {x : Int32} (h : x < 0) : x.toInt64 < 0 := by
  rw [Int64.lt_iff_toInt_lt, Int32.toInt_toInt64]
  exact Int32.lt_iff_toInt_lt.mp h
def tb_m_why : List (Nat × Instr × Nat) := [(0, .aload_n 0, 1), (1, .iconst 0, 1), (2, .putfield 1, 3), (5, .aload_n 0, 1), (6, .aload_n 0, 1), (7, .invokevirtual 266, 3), (10, .iload_n 1, 1), (11, .i2l, 1), (12, .aload_n 0, 1), (13, .getfield 13, 3), (16, .bipush 40, 2), (18, .iaload, 1), (19, .invokevirtual 269, 3), (22, .ireturn, 1)]
theorem tk_m_why : ∀ q ∈ tb_m_why, decode M_m_why.2.1 q.1 = .ok q.2 := by decide +kernel
theorem c_m_why {G : ab_G} {S : ab_S} (hm : mSh S) (hv : mV S) (hl : mLw S) (hp : mPe S) (d : Int32) : ab_C G 5 M_m_why [.ref 120, .int d] (sw S) (fun v w' => ∃ S', w' = sw S' ∧ sEq [125, 126] (m0 S) S' ∧ v = some (.int (if d < 0 then 1 else nI (spY (mR (m0 S)) (mMl (m0 S)) (mSea (m0 S)) (mCls (m0 S)) (mA (m0 S) 40) (mEn (m0 S) (mR (m0 S))) (cN d))))) := by
  refine x_enter [some (.ref 120), some (.int d)] (by decide) (Nat.le_of_ble_eq_true rfl) rfl (fun v w' h => by obtain ⟨S', rfl, -, rfl⟩ := h; split <;> rfl) ?_
  have hm0 : mSh (m0 S) := hm
  have hv0 : mV (m0 S) := hv
  have hl0 : mLw (m0 S) := hl
  have hp0 : mPe (m0 S) := hp
  have hok := mEn_ok hv0 hp0
  have hR4 := hv0.1.2
  have hw : ab_C G 4 M_m_whyStop [.ref 120, .int (nI (mEn (m0 S) (mR (m0 S)))), .long d.toInt64, .int (mA (m0 S) 40)] (sw (m0 S)) (fun v w' => ∃ S', w' = sw S' ∧ sEq [125, 126] (m0 S) S' ∧ v = some (.int (if d < 0 then 1 else nI (spY (mR (m0 S)) (mMl (m0 S)) (mSea (m0 S)) (mCls (m0 S)) (mA (m0 S) 40) (mEn (m0 S) (mR (m0 S))) (cN d))))) := by
    by_cases hd : d < 0
    · refine (c_m_whyStopN hm0 hv0 _ _ _ (i2l_neg hd)).mono (fun v w' h => ?_)
      obtain ⟨rfl, rfl⟩ := h
      exact ⟨_, rfl, sEq.rf, by rw [if_pos hd]⟩
    · obtain ⟨q, hq, e⟩ := nI_of hd
      rw [if_neg hd, e, nI_l hq, cN_nI hq]
      exact c_m_whyStop hm0 hv0 hl0 (mEn (m0 S) (mR (m0 S))) q (mA (m0 S) 40) hok.1 hok.2.1 hq
  refine x_aload_n 1 0 (ab_dd tk_m_why 0 rfl) rfl rfl rfl ?_
  refine x_iconst 2 0 (ab_dd tk_m_why 1 rfl) rfl (by decide) ?_
  refine t_putI 5 (ab_dd tk_m_why 2 rfl) rfl F_m_1 (by decide) (Nat.lt_of_lt_of_le (by decide) hm.1) (hm.2.1 0 (by decide)) rfl rfl rfl ?_
  refine x_aload_n 6 0 (ab_dd tk_m_why 3 rfl) rfl rfl rfl ?_
  refine x_aload_n 7 0 (ab_dd tk_m_why 4 rfl) rfl rfl rfl ?_
  refine t_callV 10 M_m_standNow 1 0 [] (ab_dd tk_m_why 5 rfl) rfl (by decide) K_m_standNow V_m_standNow.1 V_m_standNow.2 L_m_266 rfl (Nat.le_of_ble_eq_true rfl) (by decide) (Nat.lt_of_lt_of_le (by decide) hm.1) (hm.2.1 0 (by decide)) rfl (c_m_standNow hm0 hv0) (fun v1 w1 h1 => ?_)
  obtain ⟨rfl, rfl⟩ := h1
  refine x_iload_n 11 1 (ab_dd tk_m_why 6 rfl) rfl rfl rfl ?_
  refine x_i2l 12 (ab_dd tk_m_why 7 rfl) rfl ?_
  refine x_aload_n 13 0 (ab_dd tk_m_why 8 rfl) rfl rfl rfl ?_
  refine t_getP 16 121 (ab_dd tk_m_why 9 rfl) rfl F_m_13 (by decide) (Nat.lt_of_lt_of_le (by decide) hm.1) (hm.2.1 0 (by decide)) rfl (hm.2.2 1 (by decide)) ?_
  refine x_bipush 18 40 (ab_dd tk_m_why 10 rfl) rfl (by decide) ?_
  refine t_iald 19 40 (ab_dd tk_m_why 11 rfl) rfl (by decide) (Nat.lt_of_lt_of_le (by decide) hm.1) (hm.2.1 1 (by decide)) (by decide) (by decide) (by decide) ?_
  refine t_callV 22 M_m_whyStop 4 3 [_, _, _] (ab_dd tk_m_why 12 rfl) rfl (by decide) K_m_whyStop V_m_whyStop.1 V_m_whyStop.2 L_m_269 rfl (Nat.le_of_ble_eq_true rfl) (by decide) (Nat.lt_of_lt_of_le (by decide) hm.1) (hm.2.1 0 (by decide)) rfl (hw) (fun v1 w1 h1 => ?_)
  obtain ⟨S1, rfl, hE1, rfl⟩ := h1
  exact x_iret (ab_dd tk_m_why 13 rfl) ⟨S1, rfl, hE1, rfl⟩
theorem rid_iff {S : ab_S} (hv : mV S) (r : Int32) : (0 ≤ r.toInt64 ∧ r.toInt64 ≤ (mA S 1 - 1).toInt64) ↔ (0 ≤ r ∧ cN r < mR S) := by
  have hR := hv.1.2
  rw [show mA S 1 = nI (mR S) from hv.1.1, Int64.le_iff_toInt_le, Int64.le_iff_toInt_le, Int32.toInt_toInt64, Int32.toInt_toInt64, Int32.le_iff_toInt_le, show (0 : Int64).toInt = 0 by decide, show (0 : Int32).toInt = 0 by decide]
  have e : (nI (mR S) - 1).toInt = (mR S : Int) - 1 := pk_sub_toInt (a := mR S) (b := 1) (by omega) (by decide)
  rw [e]
  have hc : ((cN r : Nat) : Int) = max r.toInt 0 := by
    show ((r.toInt.toNat : Nat) : Int) = _
    omega
  omega
theorem c_m_isRiderI {G : ab_G} {S : ab_S} (hm : mSh S) (hv : mV S) (r : Int32) : ab_C G 1 M_m_isRider [.ref 120, .long r.toInt64] (sw S) (fun v w' => v = some (.int (if 0 ≤ r ∧ cN r < mR S then 1 else 0)) ∧ w' = sw S) := by
  refine (c_m_isRider hm r.toInt64).mono (fun v w' h => ⟨?_, h.2⟩)
  rw [h.1]
  by_cases z : 0 ≤ r ∧ cN r < mR S
  · rw [if_pos z, if_pos ((rid_iff hv r).mpr z)]
  · rw [if_neg z, if_neg (fun y => z ((rid_iff hv r).mp y))]
def tb_m_seat : List (Nat × Instr × Nat) := [(0, .aload_n 0, 1), (1, .iconst 0, 1), (2, .putfield 1, 3), (5, .aload_n 0, 1), (6, .iload_n 1, 1), (7, .i2l, 1), (8, .invokevirtual 258, 3), (11, .ifCond .eq 15, 3), (14, .aload_n 0, 1), (15, .aload_n 0, 1), (16, .invokevirtual 266, 3), (19, .iload_n 1, 1), (20, .invokevirtual 245, 3), (23, .goto 5, 3), (26, .bipush (-2), 2), (28, .ireturn, 1)]
theorem tk_m_seat : ∀ q ∈ tb_m_seat, decode M_m_seat.2.1 q.1 = .ok q.2 := by decide +kernel
theorem c_m_seat {G : ab_G} {S : ab_S} (hm : mSh S) (hv : mV S) (hl : mLw S) (hp : mPe S) (s : Int32) : ab_C G 2 M_m_seat [.ref 120, .int s] (sw S) (fun v w' => w' = sw (m0 S) ∧ v = some (.int (if 0 ≤ s ∧ cN s < mR (m0 S) then nI (mSit (mR (m0 S)) (mEn (m0 S) (mR (m0 S))) (cN s)) else -2))) := by
  refine x_enter [some (.ref 120), some (.int s)] (by decide) (Nat.le_of_ble_eq_true rfl) rfl (fun v w' h => by obtain ⟨rfl, rfl⟩ := h; split <;> rfl) ?_
  have hm0 : mSh (m0 S) := hm
  have hv0 : mV (m0 S) := hv
  have hl0 : mLw (m0 S) := hl
  have hp0 : mPe (m0 S) := hp
  have hok := mEn_ok hv0 hp0
  have hR4 := hv0.1.2
  refine x_aload_n 1 0 (ab_dd tk_m_seat 0 rfl) rfl rfl rfl ?_
  refine x_iconst 2 0 (ab_dd tk_m_seat 1 rfl) rfl (by decide) ?_
  refine t_putI 5 (ab_dd tk_m_seat 2 rfl) rfl F_m_1 (by decide) (Nat.lt_of_lt_of_le (by decide) hm.1) (hm.2.1 0 (by decide)) rfl rfl rfl ?_
  refine x_aload_n 6 0 (ab_dd tk_m_seat 3 rfl) rfl rfl rfl ?_
  refine x_iload_n 7 1 (ab_dd tk_m_seat 4 rfl) rfl rfl rfl ?_
  refine x_i2l 8 (ab_dd tk_m_seat 5 rfl) rfl ?_
  refine t_callV 11 M_m_isRider 1 1 [_] (ab_dd tk_m_seat 6 rfl) rfl (by decide) K_m_isRider V_m_isRider.1 V_m_isRider.2 L_m_258 rfl (Nat.le_of_ble_eq_true rfl) (by decide) (Nat.lt_of_lt_of_le (by decide) hm.1) (hm.2.1 0 (by decide)) rfl (c_m_isRiderI hm0 hv0 _) (fun v1 w1 h1 => ?_)
  obtain ⟨rfl, rfl⟩ := h1
  refine x_if_eq 14 26 (ab_dd tk_m_seat 7 rfl) rfl (by decide) (fun h11 => ?_) (fun h11 => ?_)
  · refine x_bipush 28 (-2) (ab_dd tk_m_seat 14 rfl) rfl (by decide) ?_
    exact x_iret (ab_dd tk_m_seat 15 rfl) ⟨rfl, by rw [if_neg (fun z => absurd h11 (by rw [if_pos z]; decide))]⟩
  · refine x_aload_n 15 0 (ab_dd tk_m_seat 8 rfl) rfl rfl rfl ?_
    refine x_aload_n 16 0 (ab_dd tk_m_seat 9 rfl) rfl rfl rfl ?_
    refine t_callV 19 M_m_standNow 1 0 [] (ab_dd tk_m_seat 10 rfl) rfl (by decide) K_m_standNow V_m_standNow.1 V_m_standNow.2 L_m_266 rfl (Nat.le_of_ble_eq_true rfl) (by decide) (Nat.lt_of_lt_of_le (by decide) hm.1) (hm.2.1 0 (by decide)) rfl (c_m_standNow hm0 hv0) (fun v1 w1 h1 => ?_)
    obtain ⟨rfl, rfl⟩ := h1
    refine x_iload_n 20 1 (ab_dd tk_m_seat 11 rfl) rfl rfl rfl ?_
    have hz : 0 ≤ s ∧ cN s < mR (m0 S) := Decidable.byContradiction (fun z => h11 (if_neg z))
    have es : s = nI (cN s) := by obtain ⟨q, hq, e⟩ := nI_of (Int32.not_lt.mpr hz.1); rw [e, cN_nI hq]
    have hsit := c_m_sitting (G := G) hm0 hv0 (mEn (m0 S) (mR (m0 S))) (cN s) hok.1 (by omega)
    rw [← es] at hsit
    refine t_callV 23 M_m_sitting 1 2 [_, _] (ab_dd tk_m_seat 12 rfl) rfl (by decide) K_m_sitting V_m_sitting.1 V_m_sitting.2 L_m_245 rfl (Nat.le_of_ble_eq_true rfl) (by decide) (Nat.lt_of_lt_of_le (by decide) hm.1) (hm.2.1 0 (by decide)) rfl (hsit) (fun v1 w1 h1 => ?_)
    obtain ⟨rfl, rfl⟩ := h1
    refine x_goto 28 (ab_dd tk_m_seat 13 rfl) (by decide) ?_
    exact x_iret (ab_dd tk_m_seat 15 rfl) ⟨rfl, by rw [if_pos hz, if_pos (hok.2.1 _ hz.2)]⟩
