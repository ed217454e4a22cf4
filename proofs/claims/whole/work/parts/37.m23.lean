/-! ===== perform, journey of the reference ===== -/
/-- the row behind a call that did something: noted -/
def aNd (a b : Nat → Int32) (nd : Nat) : Nat → Int32 := mNote b (fun k => a (28 + k)) nd
def jX (x : Int32) : Int32 := 1103515245 * x + 12345
def jU (x : Int32) : Nat := x.toBitVec.toNat / 65536
theorem jU_lt (x : Int32) : jU x < 65536 := by
  unfold jU
  have := x.toBitVec.isLt
  omega
theorem jU_N (x : Int32) : (x.toUInt32 >>> ((16 : Int32).toUInt32 &&& Int32.toUInt32 31)).toInt32 = nI (jU x) := by
  have e : x = nI x.toBitVec.toNat := by
    apply Int32.toBitVec_inj.mp
    apply BitVec.eq_of_toNat_eq
    rw [pk_tn x.toBitVec.isLt]
  have := pk_ushrN (n := x.toBitVec.toNat) x.toBitVec.isLt 16 16 (by decide)
  rw [← e] at this
  exact this
def jDr (x : Int32) : Nat × Int32 := if jU (jX x) % 6 < 3 then (jU (jX (jX x)) % 4, jX (jX x)) else if jU (jX x) % 6 < 5 then (if jU (jX x) % 6 = 3 then (10 + jU (jX (jX x)) % 4, jX (jX x)) else (20 + jU (jX (jX x)) % 10, jX (jX x))) else (100 + 10 * (jU (jX (jX x)) % 4) + jU (jX (jX (jX x))) % 4, jX (jX (jX x)))
theorem jDr_le (x : Int32) : (jDr x).1 ≤ 199 := by
  unfold jDr
  split
  · show _ % 4 ≤ 199; omega
  · split
    · split
      · show 10 + _ % 4 ≤ 199; omega
      · show 20 + _ % 10 ≤ 199; omega
    · show 100 + 10 * (_ % 4) + _ % 4 ≤ 199; omega
theorem sI_pI {S : ab_S} {a k : Nat} {x : Int32} : sI (pI S a k x) a k = x := up2_s
theorem pI_pI {S : ab_S} {a k : Nat} {x y : Int32} : pI (pI S a k x) a k y = pI S a k y := by
  have e : up2 (up2 (sI S) a k x) a k y = up2 (sI S) a k y := by
    funext b j
    by_cases h : b = a <;> by_cases g : j = k <;> simp [up2, h, g]
  show (S.1, sK S, up2 (up2 (sI S) a k x) a k y, sJ S, sP S, sn S, sz S) = _
  rw [e]; rfl
def tb_m_draw : List (Nat × Instr × Nat) := [(0, .aload_n 0, 1), (1, .ldc_w 337, 3), (4, .aload_n 0, 1), (5, .getfield 338, 3), (8, .imul, 1), (9, .sipush 12345, 3), (12, .iadd, 1), (13, .putfield 338, 3), (16, .aload_n 0, 1), (17, .getfield 338, 3), (20, .bipush 16, 2), (22, .iushr, 1), (23, .iload_n 1, 1), (24, .irem, 1), (25, .ireturn, 1)]
theorem tk_m_draw : ∀ q ∈ tb_m_draw, decode M_m_draw.2.1 q.1 = .ok q.2 := by decide +kernel
theorem c_m_draw {G : ab_G} {S : ab_S} (hm : mSh S) (x : Int32) (hx : sI S 120 20 = x) (n : Nat) (hn0 : 0 < n) (hn : n ≤ 10) : ab_C G 0 M_m_draw [.ref 120, .int (nI n)] (sw S) (fun v w' => v = some (.int (nI (jU (jX x) % n))) ∧ w' = sw (pI S 120 20 (jX x))) := by
  refine x_enter [some (.ref 120), some (.int (nI n))] (by decide) (Nat.le_of_ble_eq_true rfl) rfl (fun v w' h => by obtain ⟨rfl, rfl⟩ := h; rfl) ?_
  have hju := jU_lt (jX x)
  refine x_aload_n 1 0 (ab_dd tk_m_draw 0 rfl) rfl rfl rfl ?_
  refine x_ldcw 4 (ab_dd tk_m_draw 1 rfl) rfl C_m_337 (x_topn 1103515245 rfl ?_)
  refine x_aload_n 5 0 (ab_dd tk_m_draw 2 rfl) rfl rfl rfl ?_
  refine t_getI 8 (ab_dd tk_m_draw 3 rfl) rfl F_m_338 (by decide) (Nat.lt_of_lt_of_le (by decide) hm.1) (hm.2.1 0 (by decide)) rfl (x_topx x hx ?_)
  refine x_imul 9 (ab_dd tk_m_draw 4 rfl) rfl ?_
  refine x_sipush 12 12345 (ab_dd tk_m_draw 5 rfl) rfl (by decide) (x_topn 12345 rfl ?_)
  refine x_iadd 13 (ab_dd tk_m_draw 6 rfl) rfl (x_topx (jX x) rfl ?_)
  refine t_putI 16 (ab_dd tk_m_draw 7 rfl) rfl F_m_338 (by decide) (Nat.lt_of_lt_of_le (by decide) hm.1) (hm.2.1 0 (by decide)) rfl rfl rfl ?_
  refine x_aload_n 17 0 (ab_dd tk_m_draw 8 rfl) rfl rfl rfl ?_
  refine t_getI 20 (ab_dd tk_m_draw 9 rfl) rfl F_m_338 (by decide) (Nat.lt_of_lt_of_le (by decide) hm.1) (hm.2.1 0 (by decide)) rfl (x_topx (jX x) rfl ?_)
  refine x_bipush 22 16 (ab_dd tk_m_draw 10 rfl) rfl (by decide) (x_topn 16 rfl ?_)
  refine x_iushr 23 (ab_dd tk_m_draw 11 rfl) rfl (x_topn (jU (jX x)) (show _ = _ from jU_N (jX x)) ?_)
  refine x_iload_n 24 1 (ab_dd tk_m_draw 12 rfl) rfl rfl rfl ?_
  refine x_irem 25 (ab_dd tk_m_draw 13 rfl) rfl (nI_ne0 hn0 (by omega)) (x_topn ((jU (jX x)) % n) (pk_rem (by omega) (by omega) (by omega)) ?_)
  exact x_iret (ab_dd tk_m_draw 14 rfl) ⟨rfl, rfl⟩
def tb_m_drawn : List (Nat × Instr × Nat) := [(0, .aload_n 0, 1), (1, .bipush 6, 2), (3, .invokevirtual 341, 3), (6, .istore_n 1, 1), (7, .iload_n 1, 1), (8, .iconst 3, 1), (9, .if_icmp .ge 9, 3), (12, .aload_n 0, 1), (13, .iconst 4, 1), (14, .invokevirtual 341, 3), (17, .ireturn, 1), (18, .iload_n 1, 1), (19, .iconst 5, 1), (20, .if_icmp .ge 29, 3), (23, .iload_n 1, 1), (24, .iconst 3, 1), (25, .if_icmp .ne 14, 3), (28, .bipush 10, 2), (30, .aload_n 0, 1), (31, .iconst 4, 1), (32, .invokevirtual 341, 3), (35, .iadd, 1), (36, .goto 12, 3), (39, .bipush 20, 2), (41, .aload_n 0, 1), (42, .bipush 10, 2), (44, .invokevirtual 341, 3), (47, .iadd, 1), (48, .ireturn, 1), (49, .aload_n 0, 1), (50, .iconst 4, 1), (51, .invokevirtual 341, 3), (54, .istore_n 2, 1), (55, .bipush 100, 2), (57, .bipush 10, 2), (59, .iload_n 2, 1), (60, .imul, 1), (61, .iadd, 1), (62, .aload_n 0, 1), (63, .iconst 4, 1), (64, .invokevirtual 341, 3), (67, .iadd, 1), (68, .ireturn, 1)]
theorem tk_m_drawn : ∀ q ∈ tb_m_drawn, decode M_m_drawn.2.1 q.1 = .ok q.2 := by decide +kernel
theorem c_m_drawn {G : ab_G} {S : ab_S} (hm : mSh S) (x : Int32) (hx : sI S 120 20 = x) : ab_C G 1 M_m_drawn [.ref 120] (sw S) (fun v w' => v = some (.int (nI (jDr x).1)) ∧ w' = sw (pI S 120 20 (jDr x).2)) := by
  refine x_enter [some (.ref 120), none, none] (by decide) (Nat.le_of_ble_eq_true rfl) rfl (fun v w' h => by obtain ⟨rfl, rfl⟩ := h; rfl) ?_
  refine x_aload_n 1 0 (ab_dd tk_m_drawn 0 rfl) rfl rfl rfl ?_
  refine x_bipush 3 6 (ab_dd tk_m_drawn 1 rfl) rfl (by decide) (x_topn 6 rfl ?_)
  refine t_callV 6 M_m_draw 0 1 [_] (ab_dd tk_m_drawn 2 rfl) rfl (by decide) K_m_draw V_m_draw.1 V_m_draw.2 L_m_341 rfl (Nat.le_of_ble_eq_true rfl) (by decide) (Nat.lt_of_lt_of_le (by decide) hm.1) (hm.2.1 0 (by decide)) rfl (c_m_draw (by exact hm) x hx 6 (by decide) (by decide)) (fun v1 w1 h1 => ?_)
  obtain ⟨rfl, rfl⟩ := h1
  refine x_istore_n 7 [some (.ref 120), some (.int (nI (jU (jX x) % 6))), none] 1 (ab_dd tk_m_drawn 3 rfl) rfl rfl (by decide) rfl ?_
  refine x_iload_n 8 1 (ab_dd tk_m_drawn 4 rfl) rfl rfl rfl ?_
  refine x_iconst 9 3 (ab_dd tk_m_drawn 5 rfl) rfl (by decide) (x_topn 3 rfl ?_)
  refine xn_icmp_ge 12 18 (ab_dd tk_m_drawn 6 rfl) rfl (by decide) (by omega) (by omega) (fun h9 => ?_) (fun h9 => ?_)
  · refine x_iload_n 19 1 (ab_dd tk_m_drawn 11 rfl) rfl rfl rfl ?_
    refine x_iconst 20 5 (ab_dd tk_m_drawn 12 rfl) rfl (by decide) (x_topn 5 rfl ?_)
    refine xn_icmp_ge 23 49 (ab_dd tk_m_drawn 13 rfl) rfl (by decide) (by omega) (by omega) (fun h20 => ?_) (fun h20 => ?_)
    · refine x_aload_n 50 0 (ab_dd tk_m_drawn 29 rfl) rfl rfl rfl ?_
      refine x_iconst 51 4 (ab_dd tk_m_drawn 30 rfl) rfl (by decide) (x_topn 4 rfl ?_)
      refine t_callV 54 M_m_draw 0 1 [_] (ab_dd tk_m_drawn 31 rfl) rfl (by decide) K_m_draw V_m_draw.1 V_m_draw.2 L_m_341 rfl (Nat.le_of_ble_eq_true rfl) (by decide) (Nat.lt_of_lt_of_le (by decide) hm.1) (hm.2.1 0 (by decide)) rfl (c_m_draw (by exact hm) (jX x) sI_pI 4 (by decide) (by decide)) (fun v1 w1 h1 => ?_)
      obtain ⟨rfl, rfl⟩ := h1
      refine x_istore_n 55 [some (.ref 120), some (.int (nI (jU (jX x) % 6))), some (.int (nI (jU (jX (jX x)) % 4)))] 2 (ab_dd tk_m_drawn 32 rfl) rfl rfl (by decide) rfl ?_
      refine x_bipush 57 100 (ab_dd tk_m_drawn 33 rfl) rfl (by decide) (x_topn 100 rfl ?_)
      refine x_bipush 59 10 (ab_dd tk_m_drawn 34 rfl) rfl (by decide) (x_topn 10 rfl ?_)
      refine x_iload_n 60 2 (ab_dd tk_m_drawn 35 rfl) rfl rfl rfl ?_
      refine x_imul 61 (ab_dd tk_m_drawn 36 rfl) rfl (x_topn (10 * (jU (jX (jX x)) % 4)) (pk_mul _ _) ?_)
      refine x_iadd 62 (ab_dd tk_m_drawn 37 rfl) rfl (x_topn (100 + (10 * (jU (jX (jX x)) % 4))) (nI_add _ _) ?_)
      refine x_aload_n 63 0 (ab_dd tk_m_drawn 38 rfl) rfl rfl rfl ?_
      refine x_iconst 64 4 (ab_dd tk_m_drawn 39 rfl) rfl (by decide) (x_topn 4 rfl ?_)
      refine t_callV 67 M_m_draw 0 1 [_] (ab_dd tk_m_drawn 40 rfl) rfl (by decide) K_m_draw V_m_draw.1 V_m_draw.2 L_m_341 rfl (Nat.le_of_ble_eq_true rfl) (by decide) (Nat.lt_of_lt_of_le (by decide) hm.1) (hm.2.1 0 (by decide)) rfl (c_m_draw (by exact hm) (jX (jX x)) sI_pI 4 (by decide) (by decide)) (fun v1 w1 h1 => ?_)
      obtain ⟨rfl, rfl⟩ := h1
      refine x_iadd 68 (ab_dd tk_m_drawn 41 rfl) rfl (x_topn ((100 + (10 * (jU (jX (jX x)) % 4))) + (jU (jX (jX (jX x))) % 4)) (nI_add _ _) ?_)
      exact x_iret (ab_dd tk_m_drawn 42 rfl) ⟨by rw [show jDr x = _ from (if_neg (by omega)).trans (if_neg (by omega))], by rw [show jDr x = _ from (if_neg (by omega)).trans (if_neg (by omega))]; simp only [pI_pI]⟩
    · refine x_iload_n 24 1 (ab_dd tk_m_drawn 14 rfl) rfl rfl rfl ?_
      refine x_iconst 25 3 (ab_dd tk_m_drawn 15 rfl) rfl (by decide) (x_topn 3 rfl ?_)
      refine xn_icmp_ne 28 39 (ab_dd tk_m_drawn 16 rfl) rfl (by decide) (by omega) (by omega) (fun h25 => ?_) (fun h25 => ?_)
      · refine x_bipush 41 20 (ab_dd tk_m_drawn 23 rfl) rfl (by decide) (x_topn 20 rfl ?_)
        refine x_aload_n 42 0 (ab_dd tk_m_drawn 24 rfl) rfl rfl rfl ?_
        refine x_bipush 44 10 (ab_dd tk_m_drawn 25 rfl) rfl (by decide) (x_topn 10 rfl ?_)
        refine t_callV 47 M_m_draw 0 1 [_] (ab_dd tk_m_drawn 26 rfl) rfl (by decide) K_m_draw V_m_draw.1 V_m_draw.2 L_m_341 rfl (Nat.le_of_ble_eq_true rfl) (by decide) (Nat.lt_of_lt_of_le (by decide) hm.1) (hm.2.1 0 (by decide)) rfl (c_m_draw (by exact hm) (jX x) sI_pI 10 (by decide) (by decide)) (fun v1 w1 h1 => ?_)
        obtain ⟨rfl, rfl⟩ := h1
        refine x_iadd 48 (ab_dd tk_m_drawn 27 rfl) rfl (x_topn (20 + (jU (jX (jX x)) % 10)) (nI_add _ _) ?_)
        exact x_iret (ab_dd tk_m_drawn 28 rfl) ⟨by rw [show jDr x = _ from (if_neg (by omega)).trans ((if_pos h20).trans (if_neg h25))], by rw [show jDr x = _ from (if_neg (by omega)).trans ((if_pos h20).trans (if_neg h25))]; simp only [pI_pI]⟩
      · refine x_bipush 30 10 (ab_dd tk_m_drawn 17 rfl) rfl (by decide) (x_topn 10 rfl ?_)
        refine x_aload_n 31 0 (ab_dd tk_m_drawn 18 rfl) rfl rfl rfl ?_
        refine x_iconst 32 4 (ab_dd tk_m_drawn 19 rfl) rfl (by decide) (x_topn 4 rfl ?_)
        refine t_callV 35 M_m_draw 0 1 [_] (ab_dd tk_m_drawn 20 rfl) rfl (by decide) K_m_draw V_m_draw.1 V_m_draw.2 L_m_341 rfl (Nat.le_of_ble_eq_true rfl) (by decide) (Nat.lt_of_lt_of_le (by decide) hm.1) (hm.2.1 0 (by decide)) rfl (c_m_draw (by exact hm) (jX x) sI_pI 4 (by decide) (by decide)) (fun v1 w1 h1 => ?_)
        obtain ⟨rfl, rfl⟩ := h1
        refine x_iadd 36 (ab_dd tk_m_drawn 21 rfl) rfl (x_topn (10 + (jU (jX (jX x)) % 4)) (nI_add _ _) ?_)
        refine x_goto 48 (ab_dd tk_m_drawn 22 rfl) (by decide) ?_
        exact x_iret (ab_dd tk_m_drawn 28 rfl) ⟨by rw [show jDr x = _ from (if_neg (by omega)).trans ((if_pos h20).trans (if_pos h25))], by rw [show jDr x = _ from (if_neg (by omega)).trans ((if_pos h20).trans (if_pos h25))]; simp only [pI_pI]⟩
  · refine x_aload_n 13 0 (ab_dd tk_m_drawn 7 rfl) rfl rfl rfl ?_
    refine x_iconst 14 4 (ab_dd tk_m_drawn 8 rfl) rfl (by decide) (x_topn 4 rfl ?_)
    refine t_callV 17 M_m_draw 0 1 [_] (ab_dd tk_m_drawn 9 rfl) rfl (by decide) K_m_draw V_m_draw.1 V_m_draw.2 L_m_341 rfl (Nat.le_of_ble_eq_true rfl) (by decide) (Nat.lt_of_lt_of_le (by decide) hm.1) (hm.2.1 0 (by decide)) rfl (c_m_draw (by exact hm) (jX x) sI_pI 4 (by decide) (by decide)) (fun v1 w1 h1 => ?_)
    obtain ⟨rfl, rfl⟩ := h1
    exact x_iret (ab_dd tk_m_drawn 10 rfl) ⟨by rw [show jDr x = _ from if_pos h9], by rw [show jDr x = _ from if_pos h9]; simp only [pI_pI]⟩
theorem aTl_0 {f : Nat → Int64} : ∀ m k a, (aTl f m k a).1 = k → (aTl f m k a).2.2 = a
  | 0, k, a, _ => rfl
  | m + 1, k, a, h => by
    unfold aTl at h ⊢
    by_cases h0 : aWy a (f k) = 0
    · rw [if_pos h0] at h
      exfalso
      have : ∀ m k a, k ≤ (aTl f m k a).1 := by
        intro m
        induction m with
        | zero => intro k a; exact Nat.le_refl _
        | succ m ih =>
          intro k a
          unfold aTl
          by_cases g : aWy a (f k) = 0
          · rw [if_pos g]; have := ih (k + 1) (aDo a (jW (f k))); omega
          · rw [if_neg g]; exact Nat.le_refl _
      have := this m (k + 1) (aDo a (jW (f k)))
      omega
    · rw [if_neg h0]
def tb_m_perform : List (Nat × Instr × Nat) := [(0, .aload_n 0, 1), (1, .iconst 0, 1), (2, .putfield 1, 3), (5, .aload_n 0, 1), (6, .iload_n 1, 1), (7, .invokevirtual 325, 3), (10, .istore_n 2, 1), (11, .iload_n 2, 1), (12, .ifCond .eq 5, 3), (15, .iload_n 2, 1), (16, .ireturn, 1), (17, .aload_n 0, 1), (18, .invokevirtual 279, 3), (21, .aload_n 0, 1), (22, .iload_n 1, 1), (23, .invokevirtual 328, 3), (26, .istore_n 3, 1), (27, .iload_n 3, 1), (28, .ifCond .le 7, 3), (31, .aload_n 0, 1), (32, .invokevirtual 285, 3), (35, .iload_n 3, 1), (36, .ireturn, 1)]
theorem tk_m_perform : ∀ q ∈ tb_m_perform, decode M_m_perform.2.1 q.1 = .ok q.2 := by decide +kernel
theorem c_m_perform {G : ab_G} {S : ab_S} {a : Nat → Int32} (hm : mSh S) (hA : mA S = a) (ha : aOk a) (ht : mTr S) (nd : Nat) (hn42 : a 42 = nI nd) (hnd : nd ≤ 10) (t : Int32) : ab_C G 8 M_m_perform [.ref 120, .int t] (sw S) (pD S (some (.int (if mNt S t = 0 then nI (aTl (mTf S (cN t)) (mTc S (cN t)) 0 a).1 else mNt S t))) (if mNt S t = 0 ∧ 0 < (aTl (mTf S (cN t)) (mTc S (cN t)) 0 a).1 then aNd a (aTl (mTf S (cN t)) (mTc S (cN t)) 0 a).2.2 nd else a)) := by
  refine x_enter [some (.ref 120), some (.int t), none, none] (by decide) (Nat.le_of_ble_eq_true rfl) rfl (fun v w' h => by obtain ⟨rfl, -⟩ := h; rfl) ?_
  refine x_aload_n 1 0 (ab_dd tk_m_perform 0 rfl) rfl rfl rfl ?_
  refine x_iconst 2 0 (ab_dd tk_m_perform 1 rfl) rfl (by decide) (x_topn 0 rfl ?_)
  refine t_putI 5 (ab_dd tk_m_perform 2 rfl) rfl F_m_1 (by decide) (Nat.lt_of_lt_of_le (by decide) hm.1) (hm.2.1 0 (by decide)) rfl rfl rfl ?_
  refine x_aload_n 6 0 (ab_dd tk_m_perform 3 rfl) rfl rfl rfl ?_
  refine x_iload_n 7 1 (ab_dd tk_m_perform 4 rfl) rfl rfl rfl ?_
  refine t_callV 10 M_m_noTray 1 1 [_] (ab_dd tk_m_perform 5 rfl) rfl (by decide) K_m_noTray V_m_noTray.1 V_m_noTray.2 L_m_325 rfl (Nat.le_of_ble_eq_true rfl) (by decide) (Nat.lt_of_lt_of_le (by decide) hm.1) (hm.2.1 0 (by decide)) rfl (c_m_noTray (by exact hm) t) (fun v1 w1 h1 => ?_)
  obtain ⟨rfl, rfl⟩ := h1
  refine x_topi (fun v1 ev1 => ?_)
  refine x_istore_n 11 [some (.ref 120), some (.int t), some (.int v1), none] 2 (ab_dd tk_m_perform 6 rfl) rfl rfl (by decide) rfl ?_
  refine x_iload_n 12 2 (ab_dd tk_m_perform 7 rfl) rfl rfl rfl ?_
  refine x_if_eq 15 17 (ab_dd tk_m_perform 8 rfl) rfl (by decide) (fun h12 => ?_) (fun h12 => ?_)
  · have h0 : mNt S t = 0 := ev1.symm.trans h12
    obtain ⟨q, hq, et, eq⟩ := in_get (n := 3) (by decide) (nt_0 h0).1
    obtain ⟨c, ec, hc⟩ := ht q (by omega)
    obtain ⟨hb, hbR, ho, hle, hlt⟩ := aTl_ok (f := mTf S q) c 0 a ha
    have h42 : (aTl (mTf S q) c 0 a).2.2 42 = nI nd := by rw [ho 42 (by omega)]; exact hn42
    have ecq : mTc S (cN t) = c := by rw [eq]; show cN (sI S 143 q) = c; rw [ec, cN_nI (by omega)]
    rw [ecq, eq, if_pos h0]
    rw [show some (Value.int t) = some (Value.int (nI q)) by rw [et]]
    refine x_aload_n 18 0 (ab_dd tk_m_perform 11 rfl) rfl rfl rfl ?_
    refine t_callV 21 M_m_stores 0 0 [] (ab_dd tk_m_perform 12 rfl) rfl (by decide) K_m_stores V_m_stores.1 V_m_stores.2 L_m_279 rfl (Nat.le_of_ble_eq_true rfl) (by decide) (Nat.lt_of_lt_of_le (by decide) hm.1) (hm.2.1 0 (by decide)) rfl (c_m_stores (by exact hm)) (fun v1 w1 h1 => ?_)
    obtain ⟨rfl, U2, rfl, uE2, uW2⟩ := h1
    have um2 := mSh.eq (by exact hm) uE2
    have uA2 : mA U2 = a := (uE2.2.2.1 121 (by decide)).trans hA
    have hWs := uW2
    refine x_aload_n 22 0 (ab_dd tk_m_perform 13 rfl) rfl rfl rfl ?_
    refine x_iload_n 23 1 (ab_dd tk_m_perform 14 rfl) rfl rfl rfl ?_
    have htl := c_m_tells (G := G) um2 uA2 ha q c (by omega) (by rw [uE2.2.2.1 143 (by decide)]; exact ec) hc
    rw [show (fun k => sJ U2 144 (40 * q + k)) = mTf S q by rw [uE2.2.2.2.1 144 (by decide)]; rfl] at htl
    refine t_callV 26 M_m_tells 7 1 [_] (ab_dd tk_m_perform 15 rfl) rfl (by decide) K_m_tells V_m_tells.1 V_m_tells.2 L_m_328 rfl (Nat.le_of_ble_eq_true rfl) (by decide) (Nat.lt_of_lt_of_le (by decide) um2.1) (um2.2.1 0 (by decide)) rfl (htl) (fun v1 w1 h1 => ?_)
    obtain ⟨rfl, U3, rfl, um3, uA3, uE3, uF3, h19⟩ := h1
    refine x_istore_n 27 [some (.ref 120), some (.int (nI q)), some (.int v1), some (.int (nI ((aTl (mTf S q) c 0 a).1)))] 3 (ab_dd tk_m_perform 16 rfl) rfl rfl (by decide) rfl ?_
    refine x_iload_n 28 3 (ab_dd tk_m_perform 17 rfl) rfl rfl rfl ?_
    refine xn_if_le 31 35 (ab_dd tk_m_perform 18 rfl) rfl (by decide) (by omega) (fun h28 => ?_) (fun h28 => ?_)
    · refine x_iload_n 36 3 (ab_dd tk_m_perform 21 rfl) rfl rfl rfl ?_
      exact x_iret (ab_dd tk_m_perform 22 rfl) ⟨rfl, U3, rfl, um3, by
        rw [if_neg (fun z => by omega), uA3]
        exact aTl_0 c 0 a (by omega), ((((sEq.rf (l := 121 :: qL)).pI (by decide)).tr (uE2.mono (by decide))).tr (uE3.mono (by decide))), (fEq.t2 uF3 (by exact (fEq.r2 uE2 (by decide) (by exact (fEq.pI (fEq.rf (S := S)) (Or.inr (by decide)))))))⟩
    · refine x_aload_n 32 0 (ab_dd tk_m_perform 19 rfl) rfl rfl rfl ?_
      refine t_callV 35 M_m_notes 0 0 [] (ab_dd tk_m_perform 20 rfl) rfl (by decide) K_m_notes V_m_notes.1 V_m_notes.2 L_m_285 rfl (Nat.le_of_ble_eq_true rfl) (by decide) (Nat.lt_of_lt_of_le (by decide) um3.1) (um3.2.1 0 (by decide)) rfl (c_m_notes (by exact um3) nd (by rw [uA3]; exact h42) hnd) (fun v1 w1 h1 => ?_)
      obtain ⟨rfl, U4, rfl, uE4, uB4⟩ := h1
      have um4 := mSh.eq (by exact um3) uE4
      have uA4 : mA U4 = (mNote (aTl (mTf S q) c 0 a).2.2 (fun k => a (28 + k)) nd) := by
        rw [uB4, uA3]
        exact mNote_cg (fun k hk => by rw [uE3.2.2.1 127 (by decide), hWs k hk]; exact congrFun hA (28 + k))
      refine x_iload_n 36 3 (ab_dd tk_m_perform 21 rfl) rfl rfl rfl ?_
      exact x_iret (ab_dd tk_m_perform 22 rfl) ⟨rfl, U4, rfl, um4, by rw [if_pos ⟨h0, h28⟩, uA4]; rfl, (((((sEq.rf (l := 121 :: qL)).pI (by decide)).tr (uE2.mono (by decide))).tr (uE3.mono (by decide))).tr (uE4.mono (by decide))), (fEq.r2 uE4 (by decide) (by exact (fEq.t2 uF3 (by exact (fEq.r2 uE2 (by decide) (by exact (fEq.pI (fEq.rf (S := S)) (Or.inr (by decide)))))))))⟩
  · refine x_iload_n 16 2 (ab_dd tk_m_perform 9 rfl) rfl rfl rfl ?_
    exact x_iret (ab_dd tk_m_perform 10 rfl) ⟨rI (by rw [if_neg (show ¬ mNt S t = 0 from fun z => h12 (ev1.trans z)), ev1]; rfl), _, rfl, hm, by rw [if_neg (fun z => (show ¬ mNt S t = 0 from fun z => h12 (ev1.trans z)) z.1)]; exact hA, ((sEq.rf (l := 121 :: qL)).pI (by decide)), (fEq.pI (fEq.rf (S := S)) (Or.inr (by decide)))⟩
def aJo (a : Nat → Int32) (x : Int32) : Nat → Nat × (Nat → Int32) × Int32
  | 0 => (0, a, x)
  | k + 1 => if aDw (aJo a x k).2.1 (jDr (aJo a x k).2.2).1 = 0 then ((aJo a x k).1 + 1, aDo (aJo a x k).2.1 (jDr (aJo a x k).2.2).1, (jDr (aJo a x k).2.2).2) else ((aJo a x k).1, (aJo a x k).2.1, (jDr (aJo a x k).2.2).2)
theorem aJo_ok {a : Nat → Int32} (ha : aOk a) (x : Int32) : ∀ k, aOk (aJo a x k).2.1 ∧ aR (aJo a x k).2.1 = aR a ∧ (∀ i, (i < 28 ∨ 42 ≤ i) → (aJo a x k).2.1 i = a i) ∧ (aJo a x k).1 ≤ k ∧ ((aJo a x k).1 = 0 → (aJo a x k).2.1 = a)
  | 0 => ⟨ha, rfl, fun _ _ => rfl, Nat.le_refl _, fun _ => rfl⟩
  | k + 1 => by
    obtain ⟨h1, h2, h3, h4, h5⟩ := aJo_ok ha x k
    unfold aJo
    by_cases h : aDw (aJo a x k).2.1 (jDr (aJo a x k).2.2).1 = 0
    · rw [if_pos h]
      obtain ⟨g1, g2, g3⟩ := aDo_ok h1 h
      exact ⟨g1, g2.trans h2, fun i hi => (g3 i hi).trans (h3 i hi), by show _ + 1 ≤ _; omega, fun z => by have z : (aJo a x k).1 + 1 = 0 := z; omega⟩
    · rw [if_neg h]
      exact ⟨h1, h2, h3, by show (aJo a x k).1 ≤ _; omega, h5⟩
def tb_m_journey : List (Nat × Instr × Nat) := [(0, .aload_n 0, 1), (1, .iconst 0, 1), (2, .putfield 1, 3), (5, .iload_n 2, 1), (6, .i2l, 1), (7, .lconst 1, 1), (8, .ldc2_w 344, 3), (11, .invokestatic 159, 3), (14, .ifCond .ne 6, 3), (17, .bipush (-3), 2), (19, .ireturn, 1), (20, .aload_n 0, 1), (21, .invokevirtual 279, 3), (24, .aload_n 0, 1), (25, .iload_n 1, 1), (26, .putfield 338, 3), (29, .iconst 0, 1), (30, .istore_n 3, 1), (31, .iconst 0, 1), (32, .istore 4, 2), (34, .iload 4, 2), (36, .iload_n 2, 1), (37, .if_icmp .ge 37, 3), (40, .aload_n 0, 1), (41, .invokevirtual 346, 3), (44, .istore 5, 2), (46, .aload_n 0, 1), (47, .iload 5, 2), (49, .i2l, 1), (50, .invokevirtual 318, 3), (53, .ifCond .eq 6, 3), (56, .goto 12, 3), (59, .aload_n 0, 1), (60, .iload 5, 2), (62, .invokevirtual 322, 3), (65, .iinc 3 1, 3), (68, .iinc 4 1, 3), (71, .goto (-37), 3), (74, .iload_n 3, 1), (75, .ifCond .le 7, 3), (78, .aload_n 0, 1), (79, .invokevirtual 285, 3), (82, .iload_n 3, 1), (83, .ireturn, 1)]
theorem tk_m_journey : ∀ q ∈ tb_m_journey, decode M_m_journey.2.1 q.1 = .ok q.2 := by decide +kernel
theorem c_m_journey {G : ab_G} {S : ab_S} {a : Nat → Int32} (hm : mSh S) (hA : mA S = a) (ha : aOk a) (nd : Nat) (hn42 : a 42 = nI nd) (hnd : nd ≤ 10) (x n : Int32) : ab_C G 7 M_m_journey [.ref 120, .int x, .int n] (sw S) (pD S (some (.int (if (1 ≤ n ∧ n ≤ 40) then nI (aJo a x (cN n)).1 else -3))) (if (1 ≤ n ∧ n ≤ 40) ∧ 0 < (aJo a x (cN n)).1 then aNd a (aJo a x (cN n)).2.1 nd else a)) := by
  have loop : ∀ c : Nat, c ≤ 40 → cN n = c → (1 ≤ n ∧ n ≤ 40) → ∀ (m k : Nat), k + m = c → ∀ (S1 : ab_S), mSh S1 → mA S1 = (aJo a x k).2.1 → sI S1 120 20 = (aJo a x k).2.2 → (∀ k, k < 14 → sI S1 127 k = a (28 + k)) → sEq (121 :: qL) S S1 → fEq S S1 → ab_Ex G 7 M_m_journey 34 [some (.ref 120), some (.int x), some (.int (nI c)), some (.int (nI (aJo a x k).1)), some (.int (nI k)), none] [] (sw S1) (pD S (some (.int (if (1 ≤ n ∧ n ≤ 40) then nI (aJo a x (cN n)).1 else -3))) (if (1 ≤ n ∧ n ≤ 40) ∧ 0 < (aJo a x (cN n)).1 then aNd a (aJo a x (cN n)).2.1 nd else a)) := by
    intro c hc ec hz m
    induction m with
    | zero =>
      intro k hk S1 hm1 hA1 hx1 hW1 hE1 hF1
      obtain rfl : k = c := by omega
      obtain ⟨hb, hbR, ho, hle, hz0⟩ := aJo_ok ha x k
      have h42 : (aJo a x k).2.1 42 = nI nd := by rw [ho 42 (by omega)]; exact hn42
      rw [ec, if_pos hz]
      refine x_iload 36 4 (ab_dd tk_m_journey 20 rfl) rfl rfl ?_
      refine x_iload_n 37 2 (ab_dd tk_m_journey 21 rfl) rfl rfl rfl ?_
      refine x_icmp_ge_t 74 (ab_dd tk_m_journey 22 rfl) (by decide) ((nI_leI (a := k) (b := k) (by omega) (by omega)).mpr (show k ≤ k by omega)) ?_
      refine x_iload_n 75 3 (ab_dd tk_m_journey 38 rfl) rfl rfl rfl ?_
      refine xn_if_le 78 82 (ab_dd tk_m_journey 39 rfl) rfl (by decide) (by omega) (fun h75 => ?_) (fun h75 => ?_)
      · refine x_iload_n 83 3 (ab_dd tk_m_journey 42 rfl) rfl rfl rfl ?_
        exact x_iret (ab_dd tk_m_journey 43 rfl) ⟨rfl, S1, rfl, hm1, by rw [if_neg (fun z => by omega), hA1]; exact hz0 h75, hE1, hF1⟩
      · refine x_aload_n 79 0 (ab_dd tk_m_journey 40 rfl) rfl rfl rfl ?_
        refine t_callV 82 M_m_notes 0 0 [] (ab_dd tk_m_journey 41 rfl) rfl (by decide) K_m_notes V_m_notes.1 V_m_notes.2 L_m_285 rfl (Nat.le_of_ble_eq_true rfl) (by decide) (Nat.lt_of_lt_of_le (by decide) hm1.1) (hm1.2.1 0 (by decide)) rfl (c_m_notes (by exact hm1) nd (by rw [hA1]; exact h42) hnd) (fun v1 w1 h1 => ?_)
        obtain ⟨rfl, U1, rfl, uE1, uB1⟩ := h1
        have um1 := mSh.eq (by exact hm1) uE1
        have uA1 : mA U1 = (mNote (aJo a x k).2.1 (fun k => a (28 + k)) nd) := by
          rw [uB1, hA1]
          exact mNote_cg (fun k hk => hW1 k hk)
        refine x_iload_n 83 3 (ab_dd tk_m_journey 42 rfl) rfl rfl rfl ?_
        exact x_iret (ab_dd tk_m_journey 43 rfl) ⟨rfl, U1, rfl, um1, by rw [if_pos ⟨hz, h75⟩, uA1]; rfl, (hE1.tr (uE1.mono (by decide))), (fEq.r2 uE1 (by decide) (by exact hF1))⟩
    | succ m ih =>
      intro k hk S1 hm1 hA1 hx1 hW1 hE1 hF1
      obtain ⟨hb, hbR, ho, hle, hz0⟩ := aJo_ok ha x k
      have hd := jDr_le (aJo a x k).2.2
      refine x_iload 36 4 (ab_dd tk_m_journey 20 rfl) rfl rfl ?_
      refine x_iload_n 37 2 (ab_dd tk_m_journey 21 rfl) rfl rfl rfl ?_
      refine x_icmp_ge_f 40 (ab_dd tk_m_journey 22 rfl) rfl 74 (by decide) (fun z => absurd ((nI_leI (a := c) (b := k) (by omega) (by omega)).mp z) (show ¬ (c ≤ k) by omega)) ?_
      refine x_aload_n 41 0 (ab_dd tk_m_journey 23 rfl) rfl rfl rfl ?_
      refine t_callV 44 M_m_drawn 1 0 [] (ab_dd tk_m_journey 24 rfl) rfl (by decide) K_m_drawn V_m_drawn.1 V_m_drawn.2 L_m_346 rfl (Nat.le_of_ble_eq_true rfl) (by decide) (Nat.lt_of_lt_of_le (by decide) hm1.1) (hm1.2.1 0 (by decide)) rfl (c_m_drawn (by exact hm1) _ hx1) (fun v1 w1 h1 => ?_)
      obtain ⟨rfl, rfl⟩ := h1
      refine x_istore 46 [some (.ref 120), some (.int x), some (.int (nI c)), some (.int (nI (aJo a x k).1)), some (.int (nI k)), some (.int (nI ((jDr (aJo a x k).2.2).1)))] 5 (ab_dd tk_m_journey 25 rfl) rfl (by decide) rfl ?_
      refine x_aload_n 47 0 (ab_dd tk_m_journey 26 rfl) rfl rfl rfl ?_
      refine x_iload 49 5 (ab_dd tk_m_journey 27 rfl) rfl rfl ?_
      refine x_i2l 50 (ab_dd tk_m_journey 28 rfl) rfl (x_topL (lN ((jDr (aJo a x k).2.2).1)) (nI_l (by omega)) ?_)
      refine t_callV 53 M_m_whyNot 5 1 [_] (ab_dd tk_m_journey 29 rfl) rfl (by decide) K_m_whyNot V_m_whyNot.1 V_m_whyNot.2 L_m_318 rfl (Nat.le_of_ble_eq_true rfl) (by decide) (Nat.lt_of_lt_of_le (by decide) hm1.1) (hm1.2.1 0 (by decide)) rfl (c_m_whyNotN (S := (pI S1 120 20 (jDr (aJo a x k).2.2).2)) hm1 hA1 hb _ hd) (fun v1 w1 h1 => ?_)
      obtain ⟨rfl, U1, rfl, um1, uA1, uE1⟩ := h1
      have ux : sI U1 120 20 = (jDr (aJo a x k).2.2).2 := congrFun (uE1.2.2.1 120 (by decide)) 20
      have uW : ∀ k, k < 14 → sI U1 127 k = a (28 + k) := fun j hj => (congrFun (uE1.2.2.1 127 (by decide)) j).trans (hW1 j hj)
      have hlt2 : aDw (aJo a x k).2.1 (jDr (aJo a x k).2.2).1 < 3 := by rw [← aWy_N hd]; exact aWy_lt
      rw [aWy_N hd]
      have uEw := uE1
      refine xn_if_eq 56 59 (ab_dd tk_m_journey 30 rfl) rfl (by decide) (by omega) (fun h53 => ?_) (fun h53 => ?_)
      · refine x_aload_n 60 0 (ab_dd tk_m_journey 32 rfl) rfl rfl rfl ?_
        refine x_iload 62 5 (ab_dd tk_m_journey 33 rfl) rfl rfl ?_
        refine t_callV 65 M_m_does 6 1 [_] (ab_dd tk_m_journey 34 rfl) rfl (by decide) K_m_does V_m_does.1 V_m_does.2 L_m_322 rfl (Nat.le_of_ble_eq_true rfl) (by decide) (Nat.lt_of_lt_of_le (by decide) um1.1) (um1.2.1 0 (by decide)) rfl (c_m_does (by exact um1) (by exact uA1) hb ((jDr (aJo a x k).2.2).1) h53) (fun v1 w1 h1 => ?_)
        obtain ⟨rfl, U2, rfl, um2, uA2, uE2⟩ := h1
        refine xn_iinc 68 3 (fun y => [some (.ref 120), some (.int x), some (.int (nI c)), some (.int y), some (.int (nI k)), some (.int (nI ((jDr (aJo a x k).2.2).1)))]) ((aJo a x k).1 + 1) (ab_dd tk_m_journey 35 rfl) rfl (by decide) rfl (fun _ => rfl) (iinc_p 1) ?_
        refine xn_iinc 71 4 (fun y => [some (.ref 120), some (.int x), some (.int (nI c)), some (.int (nI ((aJo a x k).1 + 1))), some (.int y), some (.int (nI ((jDr (aJo a x k).2.2).1)))]) (k + 1) (ab_dd tk_m_journey 36 rfl) rfl (by decide) rfl (fun _ => rfl) (iinc_p 1) ?_
        refine x_goto 34 (ab_dd tk_m_journey 37 rfl) (by decide) ?_
        have hI := ih (k + 1) (by omega) U2 um2 (by rw [(show aJo a x (k + 1) = _ from if_pos h53)]; exact uA2) (by rw [(show aJo a x (k + 1) = _ from if_pos h53), uE2.2.2.1 120 (by decide)]; exact ux) (fun j hj => (congrFun (uE2.2.2.1 127 (by decide)) j).trans (uW j hj)) ((((hE1.pI (k := 20) (x := (jDr (aJo a x k).2.2).2) (by decide))).tr (uE1.mono (by decide))).tr (uE2.mono (by decide))) (fEq.r2 uE2 (by decide) (by exact (fEq.r2 uE1 (by decide) (fEq.pI hF1 (Or.inr (by decide))))))
        rw [(show aJo a x (k + 1) = _ from if_pos h53)] at hI
        exact x_forget 5 hI
      · refine x_goto 68 (ab_dd tk_m_journey 31 rfl) (by decide) ?_
        refine xn_iinc 71 4 (fun y => [some (.ref 120), some (.int x), some (.int (nI c)), some (.int (nI (aJo a x k).1)), some (.int y), some (.int (nI ((jDr (aJo a x k).2.2).1)))]) (k + 1) (ab_dd tk_m_journey 36 rfl) rfl (by decide) rfl (fun _ => rfl) (iinc_p 1) ?_
        refine x_goto 34 (ab_dd tk_m_journey 37 rfl) (by decide) ?_
        have hI := ih (k + 1) (by omega) U1 um1 (by rw [(show aJo a x (k + 1) = _ from if_neg (by omega))]; exact uA1) (by rw [(show aJo a x (k + 1) = _ from if_neg (by omega))]; exact ux) uW (((hE1.pI (k := 20) (x := (jDr (aJo a x k).2.2).2) (by decide))).tr (uE1.mono (by decide))) (fEq.r2 uE1 (by decide) (fEq.pI hF1 (Or.inr (by decide))))
        rw [(show aJo a x (k + 1) = _ from if_neg (by omega))] at hI
        exact x_forget 5 hI
  refine x_enter [some (.ref 120), some (.int x), some (.int n), none, none, none] (by decide) (Nat.le_of_ble_eq_true rfl) rfl (fun v w' h => by obtain ⟨rfl, -⟩ := h; rfl) ?_
  refine x_aload_n 1 0 (ab_dd tk_m_journey 0 rfl) rfl rfl rfl ?_
  refine x_iconst 2 0 (ab_dd tk_m_journey 1 rfl) rfl (by decide) (x_topn 0 rfl ?_)
  refine t_putI 5 (ab_dd tk_m_journey 2 rfl) rfl F_m_1 (by decide) (Nat.lt_of_lt_of_le (by decide) hm.1) (hm.2.1 0 (by decide)) rfl rfl rfl ?_
  refine x_iload_n 6 2 (ab_dd tk_m_journey 3 rfl) rfl rfl rfl ?_
  refine x_i2l 7 (ab_dd tk_m_journey 4 rfl) rfl ?_
  refine x_lconst 8 1 (ab_dd tk_m_journey 5 rfl) rfl (by decide) ?_
  refine x_ldc2 11 (ab_dd tk_m_journey 6 rfl) rfl C_m_344 ?_
  refine x_callS 14 M_m_within 0 3 [_, _, _] (ab_dd tk_m_journey 7 rfl) rfl (by decide) K_m_within T_m_within L_m_159 rfl (Nat.le_of_ble_eq_true rfl) (w_inI 1 40 rfl rfl _) (fun v1 w1 h1 => ?_)
  obtain ⟨rfl, rfl⟩ := h1
  refine xb_if_ne 17 20 (ab_dd tk_m_journey 8 rfl) rfl (by decide) (fun h14 => ?_) (fun h14 => ?_)
  · obtain ⟨c, hc, en, ec⟩ := in_get (n := 40) (by decide) ⟨Int32.le_trans (by decide) h14.1, h14.2⟩
    rw [show some (Value.int n) = some (Value.int (nI c)) by rw [en]]
    refine x_aload_n 21 0 (ab_dd tk_m_journey 11 rfl) rfl rfl rfl ?_
    refine t_callV 24 M_m_stores 0 0 [] (ab_dd tk_m_journey 12 rfl) rfl (by decide) K_m_stores V_m_stores.1 V_m_stores.2 L_m_279 rfl (Nat.le_of_ble_eq_true rfl) (by decide) (Nat.lt_of_lt_of_le (by decide) hm.1) (hm.2.1 0 (by decide)) rfl (c_m_stores (by exact hm)) (fun v1 w1 h1 => ?_)
    obtain ⟨rfl, U1, rfl, uE1, uW1⟩ := h1
    have um1 := mSh.eq (by exact hm) uE1
    have uA1 : mA U1 = a := (uE1.2.2.1 121 (by decide)).trans hA
    have hWs := uW1
    refine x_aload_n 25 0 (ab_dd tk_m_journey 13 rfl) rfl rfl rfl ?_
    refine x_iload_n 26 1 (ab_dd tk_m_journey 14 rfl) rfl rfl rfl ?_
    refine t_putI 29 (ab_dd tk_m_journey 15 rfl) rfl F_m_338 (by decide) (Nat.lt_of_lt_of_le (by decide) um1.1) (um1.2.1 0 (by decide)) rfl rfl rfl ?_
    refine x_iconst 30 0 (ab_dd tk_m_journey 16 rfl) rfl (by decide) (x_topn 0 rfl ?_)
    refine x_istore_n 31 [some (.ref 120), some (.int x), some (.int (nI c)), some (.int (nI 0)), none, none] 3 (ab_dd tk_m_journey 17 rfl) rfl rfl (by decide) rfl ?_
    refine x_iconst 32 0 (ab_dd tk_m_journey 18 rfl) rfl (by decide) (x_topn 0 rfl ?_)
    refine x_istore 34 [some (.ref 120), some (.int x), some (.int (nI c)), some (.int (nI 0)), some (.int (nI 0)), none] 4 (ab_dd tk_m_journey 19 rfl) rfl (by decide) rfl ?_
    exact loop c hc ec h14 c 0 (by omega) _ um1 uA1 rfl (fun j hj => (hWs j hj).trans (congrFun hA _)) ((((sEq.rf (l := 121 :: qL)).pI (by decide)).tr (uE1.mono (by decide))).pI (by decide)) (fEq.pI (fEq.r2 uE1 (by decide) (by exact (fEq.pI (fEq.rf (S := S)) (Or.inr (by decide))))) (Or.inr (by decide)))
  · refine x_bipush 19 (-3) (ab_dd tk_m_journey 9 rfl) rfl (by decide) ?_
    exact x_iret (ab_dd tk_m_journey 10 rfl) ⟨rI (if_neg h14).symm, _, rfl, hm, by rw [if_neg (fun z => h14 z.1)]; exact hA, ((sEq.rf (l := 121 :: qL)).pI (by decide)), (fEq.pI (fEq.rf (S := S)) (Or.inr (by decide)))⟩
