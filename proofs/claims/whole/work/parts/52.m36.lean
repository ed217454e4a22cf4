def aNo (R : Nat) (r k : Int32) : Int32 := if 0 ≤ r ∧ cN r < R then (if 0 ≤ k ∧ k ≤ 4 then 0 else -3) else -2
def tb_m_noForce : List (Nat × Instr × Nat) := [(0, .aload_n 0, 1), (1, .iload_n 1, 1), (2, .i2l, 1), (3, .invokevirtual 258, 3), (6, .ifCond .ne 8, 3), (9, .bipush (-2), 2), (11, .goto 16, 3), (14, .iload_n 2, 1), (15, .invokestatic 365, 3), (18, .ifCond .eq 7, 3), (21, .iconst 0, 1), (22, .goto 5, 3), (25, .bipush (-3), 2), (27, .ireturn, 1)]
theorem tk_m_noForce : ∀ q ∈ tb_m_noForce, decode M_m_noForce.2.1 q.1 = .ok q.2 := by decide +kernel
theorem c_m_noForce {G : ab_G} {S : ab_S} {a : Nat → Int32} (hm : mSh S) (hA : mA S = a) (ha : aOk a) (r k : Int32) : ab_C G 2 M_m_noForce [.ref 120, .int r, .int k] (sw S) (fun v w' => v = some (.int (aNo (aR a) r k)) ∧ w' = sw S) := by
  refine x_enter [some (.ref 120), some (.int r), some (.int k)] (by decide) (Nat.le_of_ble_eq_true rfl) rfl (fun v w' h => by obtain ⟨rfl, rfl⟩ := h; rfl) ?_
  refine x_aload_n 1 0 (ab_dd tk_m_noForce 0 rfl) rfl rfl rfl ?_
  refine x_iload_n 2 1 (ab_dd tk_m_noForce 1 rfl) rfl rfl rfl ?_
  refine x_i2l 3 (ab_dd tk_m_noForce 2 rfl) rfl ?_
  refine t_callV 6 M_m_isRider 1 1 [_] (ab_dd tk_m_noForce 3 rfl) rfl (by decide) K_m_isRider V_m_isRider.1 V_m_isRider.2 L_m_258 rfl (Nat.le_of_ble_eq_true rfl) (by decide) (Nat.lt_of_lt_of_le (by decide) hm.1) (hm.2.1 0 (by decide)) rfl (w_isRider (by exact hm) (by exact hA) ha _) (fun v1 w1 h1 => ?_)
  obtain ⟨rfl, rfl⟩ := h1
  refine xb_if_ne 9 14 (ab_dd tk_m_noForce 4 rfl) rfl (by decide) (fun h6 => ?_) (fun h6 => ?_)
  · refine x_iload_n 15 2 (ab_dd tk_m_noForce 7 rfl) rfl rfl rfl ?_
    refine x_callS 18 M_m_isWarm 1 1 [_] (ab_dd tk_m_noForce 8 rfl) rfl (by decide) K_m_isWarm T_m_isWarm L_m_365 rfl (Nat.le_of_ble_eq_true rfl) (c_m_isWarm _) (fun v1 w1 h1 => ?_)
    obtain ⟨rfl, rfl⟩ := h1
    refine xb_if_eq 21 25 (ab_dd tk_m_noForce 9 rfl) rfl (by decide) (fun h18 => ?_) (fun h18 => ?_)
    · refine x_bipush 27 (-3) (ab_dd tk_m_noForce 12 rfl) rfl (by decide) ?_
      exact x_iret (ab_dd tk_m_noForce 13 rfl) ⟨rI ((if_pos h6).trans (if_neg h18)).symm, rfl⟩
    · refine x_iconst 22 0 (ab_dd tk_m_noForce 10 rfl) rfl (by decide) (x_topn 0 rfl ?_)
      refine x_goto 27 (ab_dd tk_m_noForce 11 rfl) (by decide) ?_
      exact x_iret (ab_dd tk_m_noForce 13 rfl) ⟨rI ((if_pos h6).trans (if_pos h18)).symm, rfl⟩
  · refine x_bipush 11 (-2) (ab_dd tk_m_noForce 5 rfl) rfl (by decide) ?_
    refine x_goto 27 (ab_dd tk_m_noForce 6 rfl) (by decide) ?_
    exact x_iret (ab_dd tk_m_noForce 13 rfl) ⟨rI (if_neg h6).symm, rfl⟩
theorem aNo_0 {R : Nat} {r k : Int32} (h : aNo R r k = 0) : (0 ≤ r ∧ cN r < R) ∧ (0 ≤ k ∧ k ≤ 4) := by
  unfold aNo at h
  by_cases h1 : 0 ≤ r ∧ cN r < R
  · rw [if_pos h1] at h
    by_cases h2 : 0 ≤ k ∧ k ≤ 4
    · exact ⟨h1, h2⟩
    · rw [if_neg h2] at h; exact absurd h (by decide)
  · rw [if_neg h1] at h; exact absurd h (by decide)
def tb_m_forces : List (Nat × Instr × Nat) := [(0, .aload_n 0, 1), (1, .iconst 0, 1), (2, .putfield 1, 3), (5, .aload_n 0, 1), (6, .iload_n 1, 1), (7, .iload_n 2, 1), (8, .invokevirtual 439, 3), (11, .istore_n 3, 1), (12, .iload_n 3, 1), (13, .ifCond .eq 7, 3), (16, .iload_n 3, 1), (17, .goto 12, 3), (20, .aload_n 0, 1), (21, .iload_n 1, 1), (22, .iload_n 2, 1), (23, .invokevirtual 442, 3), (26, .invokestatic 384, 3), (29, .ireturn, 1)]
theorem tk_m_forces : ∀ q ∈ tb_m_forces, decode M_m_forces.2.1 q.1 = .ok q.2 := by decide +kernel
theorem c_m_forces {G : ab_G} {S : ab_S} {a : Nat → Int32} (hm : mSh S) (hA : mA S = a) (ha : aOk a) (r k : Int32) : ab_C G 7 M_m_forces [.ref 120, .int r, .int k] (sw S) (fun v w' => ∃ v0, pQ S (some (.int v0)) v w' ∧ ((¬ aNo (aR a) r k = 0 ∧ v0 = aNo (aR a) r k) ∨ (aNo (aR a) r k = 0 ∧ ∃ N, (aL a N).length = N ∧ fstM (fun m => m < gFAR ∧ fw (gI a N) (gV a N (cN r) (cN k)) m true 0) v0))) := by
  refine x_enter [some (.ref 120), some (.int r), some (.int k), none] (by decide) (Nat.le_of_ble_eq_true rfl) rfl (fun v w' h => by obtain ⟨v0, ⟨rfl, -⟩, -⟩ := h; rfl) ?_
  have hR4 := ha.R.2
  refine x_aload_n 1 0 (ab_dd tk_m_forces 0 rfl) rfl rfl rfl ?_
  refine x_iconst 2 0 (ab_dd tk_m_forces 1 rfl) rfl (by decide) (x_topn 0 rfl ?_)
  refine t_putI 5 (ab_dd tk_m_forces 2 rfl) rfl F_m_1 (by decide) (Nat.lt_of_lt_of_le (by decide) hm.1) (hm.2.1 0 (by decide)) rfl rfl rfl ?_
  refine x_aload_n 6 0 (ab_dd tk_m_forces 3 rfl) rfl rfl rfl ?_
  refine x_iload_n 7 1 (ab_dd tk_m_forces 4 rfl) rfl rfl rfl ?_
  refine x_iload_n 8 2 (ab_dd tk_m_forces 5 rfl) rfl rfl rfl ?_
  refine t_callV 11 M_m_noForce 2 2 [_, _] (ab_dd tk_m_forces 6 rfl) rfl (by decide) K_m_noForce V_m_noForce.1 V_m_noForce.2 L_m_439 rfl (Nat.le_of_ble_eq_true rfl) (by decide) (Nat.lt_of_lt_of_le (by decide) hm.1) (hm.2.1 0 (by decide)) rfl (c_m_noForce (by exact hm) (by exact hA) ha _ _) (fun v1 w1 h1 => ?_)
  obtain ⟨rfl, rfl⟩ := h1
  refine x_topi (fun v1 ev1 => ?_)
  refine x_istore_n 12 [some (.ref 120), some (.int r), some (.int k), some (.int v1)] 3 (ab_dd tk_m_forces 7 rfl) rfl rfl (by decide) rfl ?_
  refine x_iload_n 13 3 (ab_dd tk_m_forces 8 rfl) rfl rfl rfl ?_
  refine x_if_eq 16 20 (ab_dd tk_m_forces 9 rfl) rfl (by decide) (fun h13 => ?_) (fun h13 => ?_)
  · have h0 := aNo_0 (show aNo (aR a) r k = 0 by rw [← ev1]; exact h13)
    obtain ⟨p, hp, erp, er⟩ := rid_get h0.1 hR4
    obtain ⟨h, hh, ekh, ek⟩ := in_get (n := 4) (by decide) h0.2
    rw [show some (Value.int r) = some (Value.int (nI p)) by rw [erp], show some (Value.int k) = some (Value.int (nI h)) by rw [ekh]]
    refine x_aload_n 21 0 (ab_dd tk_m_forces 12 rfl) rfl rfl rfl ?_
    refine x_iload_n 22 1 (ab_dd tk_m_forces 13 rfl) rfl rfl rfl ?_
    refine x_iload_n 23 2 (ab_dd tk_m_forces 14 rfl) rfl rfl rfl ?_
    refine t_callV 26 M_m_laysForce 6 2 [_, _] (ab_dd tk_m_forces 15 rfl) rfl (by decide) K_m_laysForce V_m_laysForce.1 V_m_laysForce.2 L_m_442 rfl (Nat.le_of_ble_eq_true rfl) (by decide) (Nat.lt_of_lt_of_le (by decide) hm.1) (hm.2.1 0 (by decide)) rfl (c_m_laysForce (by exact hm) (by exact hA) ha p h (by omega) hh) (fun v1 w1 h1 => ?_)
    obtain ⟨U2, N, f, e, rfl, um2, uA2, uE2, uF2, hgr, hf, he, hI, hst, rfl⟩ := h1
    have hgN : ∀ i d j, i < N → d < 4 → gI a N i d = some j → j < N := fun i d j hi hd e => gI_lt hgr.1 hi hd e
    have hf0 := (hI 0 hgr.2.2.1).1
    have hFAR : gFAR = 268435456 := rfl
    rw [hFAR] at hf0
    refine x_callS 29 M_m_toldFar 0 1 [_] (ab_dd tk_m_forces 16 rfl) rfl (by decide) K_m_toldFar T_m_toldFar L_m_384 rfl (Nat.le_of_ble_eq_true rfl) (c_m_toldFar (f 0) (by omega)) (fun v1 w1 h1 => ?_)
    obtain ⟨rfl, rfl⟩ := h1
    have hans : fstM (fun m => m < gFAR ∧ fw (gI a N) (gV a N (cN r) (cN k)) m true 0) (if f 0 = gFAR then -1 else nI (f 0)) := by
      rw [er, ek]
      by_cases z : f 0 = gFAR
      · rw [if_pos z]
        exact Or.inr ⟨fun m hm => by have := fI_fix hgN hI hst m true 0 hgr.2.2.1 hm.1 hm.2; rw [if_pos rfl] at this; omega, rfl⟩
      · rw [if_neg z]
        exact Or.inl ⟨f 0, ⟨by omega, (hI 0 hgr.2.2.1).2.2.2.1 (by omega)⟩, fun j hj hm => by have := fI_fix hgN hI hst j true 0 hgr.2.2.1 hm.1 hm.2; rw [if_pos rfl] at this; omega, rfl⟩
    exact x_iret (ab_dd tk_m_forces 17 rfl) ⟨_, ⟨rfl, _, rfl, um2, uA2.trans hA.symm, (((sEq.rf (l := qL)).pI (by decide)).tr (uE2.mono (by decide))), (fEq.t2 uF2 (by exact (fEq.pI (fEq.rf (S := S)) (Or.inr (by decide)))))⟩, Or.inr ⟨by rw [← ev1]; exact h13, N, hgr.1, hans⟩⟩
  · refine x_iload_n 17 3 (ab_dd tk_m_forces 10 rfl) rfl rfl rfl ?_
    refine x_goto 29 (ab_dd tk_m_forces 11 rfl) (by decide) ?_
    exact x_iret (ab_dd tk_m_forces 17 rfl) ⟨v1, ⟨rfl, _, rfl, hm, hA.trans hA.symm, ((sEq.rf (l := qL)).pI (by decide)), (fEq.pI (fEq.rf (S := S)) (Or.inr (by decide)))⟩, Or.inl ⟨by rw [← ev1]; exact h13, ev1⟩⟩
def tb_m_best : List (Nat × Instr × Nat) := [(0, .aload_n 0, 1), (1, .iconst 0, 1), (2, .putfield 1, 3), (5, .aload_n 0, 1), (6, .iload_n 1, 1), (7, .iload_n 2, 1), (8, .invokevirtual 439, 3), (11, .istore_n 3, 1), (12, .iload_n 3, 1), (13, .ifCond .eq 5, 3), (16, .iload_n 3, 1), (17, .ireturn, 1), (18, .aload_n 0, 1), (19, .iload_n 1, 1), (20, .iload_n 2, 1), (21, .invokevirtual 442, 3), (24, .istore 4, 2), (26, .iconst 0, 1), (27, .istore 5, 2), (29, .iload 5, 2), (31, .iconst 4, 1), (32, .if_icmp .ge 37, 3), (35, .iload 4, 2), (37, .ifCond .le 32, 3), (40, .iload 4, 2), (42, .ldc_w 374, 3), (45, .if_icmp .ge 24, 3), (48, .aload_n 0, 1), (49, .iconst 0, 1), (50, .iload 5, 2), (52, .invokevirtual 433, 3), (55, .iload 4, 2), (57, .if_icmp .ne 6, 3), (60, .iload 5, 2), (62, .ireturn, 1), (63, .iinc 5 1, 3), (66, .goto (-37), 3), (69, .iconst (-1), 1), (70, .ireturn, 1)]
theorem tk_m_best : ∀ q ∈ tb_m_best, decode M_m_best.2.1 q.1 = .ok q.2 := by decide +kernel
theorem c_m_best {G : ab_G} {S : ab_S} {a : Nat → Int32} (hm : mSh S) (hA : mA S = a) (ha : aOk a) (r k : Int32) : ab_C G 7 M_m_best [.ref 120, .int r, .int k] (sw S) (fun v w' => ∃ v0, pQ S (some (.int v0)) v w' ∧ ((¬ aNo (aR a) r k = 0 ∧ v0 = aNo (aR a) r k) ∨ (aNo (aR a) r k = 0 ∧ ∃ N, (aL a N).length = N ∧ bsR (gI a N) (gV a N (cN r) (cN k)) 0 v0))) := by
  have hR4 := ha.R.2
  refine x_enter [some (.ref 120), some (.int r), some (.int k), none, none, none] (by decide) (Nat.le_of_ble_eq_true rfl) rfl (fun v w' h => by obtain ⟨v0, ⟨rfl, -⟩, -⟩ := h; rfl) ?_
  refine x_aload_n 1 0 (ab_dd tk_m_best 0 rfl) rfl rfl rfl ?_
  refine x_iconst 2 0 (ab_dd tk_m_best 1 rfl) rfl (by decide) (x_topn 0 rfl ?_)
  refine t_putI 5 (ab_dd tk_m_best 2 rfl) rfl F_m_1 (by decide) (Nat.lt_of_lt_of_le (by decide) hm.1) (hm.2.1 0 (by decide)) rfl rfl rfl ?_
  refine x_aload_n 6 0 (ab_dd tk_m_best 3 rfl) rfl rfl rfl ?_
  refine x_iload_n 7 1 (ab_dd tk_m_best 4 rfl) rfl rfl rfl ?_
  refine x_iload_n 8 2 (ab_dd tk_m_best 5 rfl) rfl rfl rfl ?_
  refine t_callV 11 M_m_noForce 2 2 [_, _] (ab_dd tk_m_best 6 rfl) rfl (by decide) K_m_noForce V_m_noForce.1 V_m_noForce.2 L_m_439 rfl (Nat.le_of_ble_eq_true rfl) (by decide) (Nat.lt_of_lt_of_le (by decide) hm.1) (hm.2.1 0 (by decide)) rfl (c_m_noForce (by exact hm) (by exact hA) ha _ _) (fun v1 w1 h1 => ?_)
  obtain ⟨rfl, rfl⟩ := h1
  refine x_topi (fun v1 ev1 => ?_)
  refine x_istore_n 12 [some (.ref 120), some (.int r), some (.int k), some (.int v1), none, none] 3 (ab_dd tk_m_best 7 rfl) rfl rfl (by decide) rfl ?_
  refine x_iload_n 13 3 (ab_dd tk_m_best 8 rfl) rfl rfl rfl ?_
  refine x_if_eq 16 18 (ab_dd tk_m_best 9 rfl) rfl (by decide) (fun h13 => ?_) (fun h13 => ?_)
  · have h0 := aNo_0 (show aNo (aR a) r k = 0 by rw [← ev1]; exact h13)
    obtain ⟨p, hp, erp, er⟩ := rid_get h0.1 hR4
    obtain ⟨h, hh, ekh, ek⟩ := in_get (n := 4) (by decide) h0.2
    rw [show some (Value.int r) = some (Value.int (nI p)) by rw [erp], show some (Value.int k) = some (Value.int (nI h)) by rw [ekh]]
    refine x_aload_n 19 0 (ab_dd tk_m_best 12 rfl) rfl rfl rfl ?_
    refine x_iload_n 20 1 (ab_dd tk_m_best 13 rfl) rfl rfl rfl ?_
    refine x_iload_n 21 2 (ab_dd tk_m_best 14 rfl) rfl rfl rfl ?_
    refine t_callV 24 M_m_laysForce 6 2 [_, _] (ab_dd tk_m_best 15 rfl) rfl (by decide) K_m_laysForce V_m_laysForce.1 V_m_laysForce.2 L_m_442 rfl (Nat.le_of_ble_eq_true rfl) (by decide) (Nat.lt_of_lt_of_le (by decide) hm.1) (hm.2.1 0 (by decide)) rfl (c_m_laysForce (by exact hm) (by exact hA) ha p h (by omega) hh) (fun v1 w1 h1 => ?_)
    obtain ⟨U2, N, f, e, rfl, um2, uA2, uE2, uF2, hgr, hf, he, hI, hst, rfl⟩ := h1
    have hgN : ∀ i d j, i < N → d < 4 → gI a N i d = some j → j < N := fun i d j hi hd e => gI_lt hgr.1 hi hd e
    have hf0 := (hI 0 hgr.2.2.1).1
    have hFAR : gFAR = 268435456 := rfl
    rw [hFAR] at hf0
    refine x_istore 26 [some (.ref 120), some (.int (nI p)), some (.int (nI h)), some (.int v1), some (.int (nI (f 0))), none] 4 (ab_dd tk_m_best 16 rfl) rfl (by decide) rfl ?_
    refine x_iconst 27 0 (ab_dd tk_m_best 17 rfl) rfl (by decide) (x_topn 0 rfl ?_)
    refine x_istore 29 [some (.ref 120), some (.int (nI p)), some (.int (nI h)), some (.int v1), some (.int (nI (f 0))), some (.int (nI 0))] 5 (ab_dd tk_m_best 18 rfl) rfl (by decide) rfl ?_
    rw [show (gV a N p h) = gV a N (cN r) (cN k) by rw [er, ek]] at hI
    have hfix := fI_fix hgN hI hst
    have h00 := hgr.2.2.1
    have hz : aNo (aR a) r k = 0 := by rw [← ev1]; exact h13
    by_cases c1 : f 0 = 0 ∨ f 0 = gFAR
    · by_cases c2 : f 0 = 0
      · refine x_iload 31 5 (ab_dd tk_m_best 19 rfl) rfl rfl ?_
        refine x_iconst 32 4 (ab_dd tk_m_best 20 rfl) rfl (by decide) (x_topn 4 rfl ?_)
        refine x_icmp_ge_f 35 (ab_dd tk_m_best 21 rfl) rfl 69 (by decide) (fun z => absurd ((nI_leI (a := 4) (b := 0) (by omega) (by omega)).mp z) (show ¬ (4 ≤ 0) by omega)) ?_
        refine x_iload 37 4 (ab_dd tk_m_best 22 rfl) rfl rfl ?_
        refine x_if_le_t 69 (ab_dd tk_m_best 23 rfl) (by decide) ((nI_leI (a := (f 0)) (b := 0) (by omega) (by omega)).mpr (show (f 0) ≤ 0 by omega)) ?_
        refine x_iconst 70 (-1) (ab_dd tk_m_best 37 rfl) rfl (by decide) ?_
        refine x_iret (ab_dd tk_m_best 38 rfl) ⟨-1, ⟨rfl, _, rfl, um2, uA2.trans hA.symm, (((sEq.rf (l := qL)).pI (by decide)).tr (uE2.mono (by decide))), (fEq.t2 uF2 (by exact (fEq.pI (fEq.rf (S := S)) (Or.inr (by decide)))))⟩, Or.inr ⟨hz, N, hgr.1, Or.inr ⟨fun n hn => ?_, rfl⟩⟩⟩
        have q1 := hfix (n + 1) true 0 h00 hn.1 hn.2.1
        rw [if_pos rfl] at q1
        rcases c1 with c1 | c1
        · exact hn.2.2 (fw_mono (show f 0 ≤ n by omega) ((hI 0 h00).2.2.2.1 (by omega)))
        · omega
      · refine x_iload 31 5 (ab_dd tk_m_best 19 rfl) rfl rfl ?_
        refine x_iconst 32 4 (ab_dd tk_m_best 20 rfl) rfl (by decide) (x_topn 4 rfl ?_)
        refine x_icmp_ge_f 35 (ab_dd tk_m_best 21 rfl) rfl 69 (by decide) (fun z => absurd ((nI_leI (a := 4) (b := 0) (by omega) (by omega)).mp z) (show ¬ (4 ≤ 0) by omega)) ?_
        refine x_iload 37 4 (ab_dd tk_m_best 22 rfl) rfl rfl ?_
        refine x_if_le_f 40 (ab_dd tk_m_best 23 rfl) rfl 69 (by decide) (fun z => absurd ((nI_leI (a := (f 0)) (b := 0) (by omega) (by omega)).mp z) (show ¬ ((f 0) ≤ 0) by omega)) ?_
        refine x_iload 42 4 (ab_dd tk_m_best 24 rfl) rfl rfl ?_
        refine x_ldcw 45 (ab_dd tk_m_best 25 rfl) rfl C_m_374 (x_topn 268435456 rfl ?_)
        refine x_icmp_ge_t 69 (ab_dd tk_m_best 26 rfl) (by decide) ((nI_leI (a := 268435456) (b := (f 0)) (by omega) (by omega)).mpr (show 268435456 ≤ (f 0) by omega)) ?_
        refine x_iconst 70 (-1) (ab_dd tk_m_best 37 rfl) rfl (by decide) ?_
        refine x_iret (ab_dd tk_m_best 38 rfl) ⟨-1, ⟨rfl, _, rfl, um2, uA2.trans hA.symm, (((sEq.rf (l := qL)).pI (by decide)).tr (uE2.mono (by decide))), (fEq.t2 uF2 (by exact (fEq.pI (fEq.rf (S := S)) (Or.inr (by decide)))))⟩, Or.inr ⟨hz, N, hgr.1, Or.inr ⟨fun n hn => ?_, rfl⟩⟩⟩
        have q1 := hfix (n + 1) true 0 h00 hn.1 hn.2.1
        rw [if_pos rfl] at q1
        rcases c1 with c1 | c1
        · exact hn.2.2 (fw_mono (show f 0 ≤ n by omega) ((hI 0 h00).2.2.2.1 (by omega)))
        · omega
    · obtain ⟨n, en⟩ : ∃ n, f 0 = n + 1 := ⟨f 0 - 1, by omega⟩
      have hfw : fw (gI a N) (gV a N (cN r) (cN k)) (n + 1) true 0 := by rw [← en]; exact (hI 0 h00).2.2.2.1 (by omega)
      have hnf : ¬ fw (gI a N) (gV a N (cN r) (cN k)) n true 0 := fun z => by have := hfix n true 0 h00 (by omega) z; rw [if_pos rfl] at this; omega
      have heq : ∀ d j, d < 4 → gI a N 0 d = some j → (fB (gI a N) e 0 d = f 0 ↔ fw (gI a N) (gV a N (cN r) (cN k)) n false j) := fun d j hd ej => by
        have hj := hgN 0 d j h00 hd ej
        rw [fB_some ej]
        refine ⟨fun z => ?_, fun z => ?_⟩
        · by_cases y : e j = gFAR
          · rw [if_pos y] at z; omega
          · rw [if_neg y] at z
            have y2 := (hI j hj).2.1
            have := (hI j hj).2.2.2.2 (by omega)
            rw [show e j = n by omega] at this
            exact this
        · have q1 := hfix n false j hj (by omega) z
          rw [if_neg (by decide)] at q1
          rw [if_neg (by omega)]
          have q2 := (hI j hj).2.2.2.2 (by omega)
          have q3 : f 0 ≤ e j + 1 := by
            have := hfix (e j + 1) true 0 h00 (by omega) (Or.inr ⟨d, j, hd, ej, q2⟩)
            rw [if_pos rfl] at this
            exact this
          omega
      have hfb : ∀ d, d < 4 → gI a N 0 d = none → fB (gI a N) e 0 d ≠ f 0 := fun d hd ej => by rw [fB_none ej]; omega
      have loop : ∀ (m d : Nat), d + m = 4 → (∀ d', d' < d → fB (gI a N) e 0 d' ≠ f 0) → ab_Ex G 7 M_m_best 29 [some (.ref 120), some (.int (nI p)), some (.int (nI h)), some (.int v1), some (.int (nI (f 0))), some (.int (nI d))] [] (sw U2) (fun v w' => ∃ v0, pQ S (some (.int v0)) v w' ∧ ((¬ aNo (aR a) r k = 0 ∧ v0 = aNo (aR a) r k) ∨ (aNo (aR a) r k = 0 ∧ ∃ N, (aL a N).length = N ∧ bsR (gI a N) (gV a N (cN r) (cN k)) 0 v0))) := by
        intro m
        induction m with
        | zero =>
          intro d hd hno
          obtain ⟨d0, j0, hd0, ej0, z0⟩ := hfw.resolve_left (fun z => hnf (fw_W n true 0 z))
          exact absurd ((heq d0 j0 hd0 ej0).mpr z0) (hno d0 (by omega))
        | succ m ih =>
          intro d hd hno
          have hbl := fB_le2 hgN (fun i hi => (hI i hi).2.1) h00 (show d < 4 by omega)
          rw [hFAR] at hbl
          refine x_iload 31 5 (ab_dd tk_m_best 19 rfl) rfl rfl ?_
          refine x_iconst 32 4 (ab_dd tk_m_best 20 rfl) rfl (by decide) (x_topn 4 rfl ?_)
          refine x_icmp_ge_f 35 (ab_dd tk_m_best 21 rfl) rfl 69 (by decide) (fun z => absurd ((nI_leI (a := 4) (b := d) (by omega) (by omega)).mp z) (show ¬ (4 ≤ d) by omega)) ?_
          refine x_iload 37 4 (ab_dd tk_m_best 22 rfl) rfl rfl ?_
          refine x_if_le_f 40 (ab_dd tk_m_best 23 rfl) rfl 69 (by decide) (fun z => absurd ((nI_leI (a := (f 0)) (b := 0) (by omega) (by omega)).mp z) (show ¬ ((f 0) ≤ 0) by omega)) ?_
          refine x_iload 42 4 (ab_dd tk_m_best 24 rfl) rfl rfl ?_
          refine x_ldcw 45 (ab_dd tk_m_best 25 rfl) rfl C_m_374 (x_topn 268435456 rfl ?_)
          refine x_icmp_ge_f 48 (ab_dd tk_m_best 26 rfl) rfl 69 (by decide) (fun z => absurd ((nI_leI (a := 268435456) (b := (f 0)) (by omega) (by omega)).mp z) (show ¬ (268435456 ≤ (f 0)) by omega)) ?_
          refine x_aload_n 49 0 (ab_dd tk_m_best 27 rfl) rfl rfl rfl ?_
          refine x_iconst 50 0 (ab_dd tk_m_best 28 rfl) rfl (by decide) (x_topn 0 rfl ?_)
          refine x_iload 52 5 (ab_dd tk_m_best 29 rfl) rfl rfl ?_
          refine t_callV 55 M_m_firstBy 0 2 [_, _] (ab_dd tk_m_best 30 rfl) rfl (by decide) K_m_firstBy V_m_firstBy.1 V_m_firstBy.2 L_m_433 rfl (Nat.le_of_ble_eq_true rfl) (by decide) (Nat.lt_of_lt_of_le (by decide) um2.1) (um2.2.1 0 (by decide)) rfl (c_m_firstBy (by exact um2) (by exact hgr) (by exact he) (fun i hi => (hI i hi).2.1) 0 d h00 (by omega)) (fun v1 w1 h1 => ?_)
          obtain ⟨rfl, rfl⟩ := h1
          refine x_iload 57 4 (ab_dd tk_m_best 31 rfl) rfl rfl ?_
          refine xn_icmp_ne 60 63 (ab_dd tk_m_best 32 rfl) rfl (by decide) (by omega) (by omega) (fun h57 => ?_) (fun h57 => ?_)
          · refine xn_iinc 66 5 (fun y => [some (.ref 120), some (.int (nI p)), some (.int (nI h)), some (.int v1), some (.int (nI (f 0))), some (.int y)]) (d + 1) (ab_dd tk_m_best 35 rfl) rfl (by decide) rfl (fun _ => rfl) (iinc_p 1) ?_
            refine x_goto 29 (ab_dd tk_m_best 36 rfl) (by decide) ?_
            refine ih (d + 1) (by omega) (fun d' hd' => ?_)
            by_cases q : d' = d
            · rw [q]; exact h57
            · exact hno d' (by omega)
          · refine x_iload 62 5 (ab_dd tk_m_best 33 rfl) rfl rfl ?_
            refine x_iret (ab_dd tk_m_best 34 rfl) ⟨_, ⟨rfl, _, rfl, um2, uA2.trans hA.symm, (((sEq.rf (l := qL)).pI (by decide)).tr (uE2.mono (by decide))), (fEq.t2 uF2 (by exact (fEq.pI (fEq.rf (S := S)) (Or.inr (by decide)))))⟩, Or.inr ⟨hz, N, hgr.1, Or.inl ?_⟩⟩
            cases ej : gI a N 0 d with
            | none => exact absurd h57 (hfb d (by omega) ej)
            | some j => exact ⟨n, d, j, by omega, hfw, hnf, by omega, ej, (heq d j (by omega) ej).mp h57, fun d' j' hd' ej' z => hno d' hd' ((heq d' j' (by omega) ej').mpr z), rfl⟩
      exact loop 4 0 rfl (fun d' hd' => absurd hd' (by omega))
  · refine x_iload_n 17 3 (ab_dd tk_m_best 10 rfl) rfl rfl rfl ?_
    exact x_iret (ab_dd tk_m_best 11 rfl) ⟨v1, ⟨rfl, _, rfl, hm, hA.trans hA.symm, ((sEq.rf (l := qL)).pI (by decide)), (fEq.pI (fEq.rf (S := S)) (Or.inr (by decide)))⟩, Or.inl ⟨by rw [← ev1]; exact h13, ev1⟩⟩
