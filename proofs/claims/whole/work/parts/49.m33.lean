/-! ===== felt: seasons, months, attempt of the reference ===== -/
def aNf (S : ab_S) (R : Nat) (t r : Int32) : Int32 := if (0 ≤ t ∧ t ≤ 3) ∧ (0 ≤ r ∧ cN r < R) then (if mNt S t = 0 then (if 1 ≤ mTc S (cN t) ∧ mTc S (cN t) ≤ 10 then (if ∀ i, i < mTc S (cN t) → 0 ≤ mTf S (cN t) i ∧ mTf S (cN t) i ≤ 4 then 0 else -3) else -4) else mNt S t) else -2
theorem aNf_0 {S : ab_S} {R : Nat} {t r : Int32} (h : aNf S R t r = 0) : ((0 ≤ t ∧ t ≤ 3) ∧ (0 ≤ r ∧ cN r < R)) ∧ mNt S t = 0 ∧ (1 ≤ mTc S (cN t) ∧ mTc S (cN t) ≤ 10) ∧ ∀ i, i < mTc S (cN t) → 0 ≤ mTf S (cN t) i ∧ mTf S (cN t) i ≤ 4 := by
  unfold aNf at h
  by_cases h1 : (0 ≤ t ∧ t ≤ 3) ∧ (0 ≤ r ∧ cN r < R)
  · rw [if_pos h1] at h
    by_cases h2 : mNt S t = 0
    · rw [if_pos h2] at h
      by_cases h3 : 1 ≤ mTc S (cN t) ∧ mTc S (cN t) ≤ 10
      · rw [if_pos h3] at h
        by_cases h4 : ∀ i, i < mTc S (cN t) → 0 ≤ mTf S (cN t) i ∧ mTf S (cN t) i ≤ 4
        · exact ⟨h1, h2, h3, h4⟩
        · rw [if_neg h4] at h; exact absurd h (by decide)
      · rw [if_neg h3] at h; exact absurd h (by decide)
    · rw [if_neg h2] at h; exact absurd h h2
  · rw [if_neg h1] at h; exact absurd h (by decide)
/-- bits by a test -/
def mQ (q : Nat → Bool) : Nat → Nat
  | 0 => 0
  | k + 1 => mQ q k + (if q k = true then 2 ^ k else 0)
theorem mQ_lt (q : Nat → Bool) : ∀ k, mQ q k < 2 ^ k
  | 0 => by show 0 < 1; decide
  | k + 1 => by
    have := mQ_lt q k
    unfold mQ
    rw [Nat.pow_succ]
    split <;> omega
theorem mQ_bt (q : Nat → Bool) : ∀ k i, i < k → (bt (mQ q k) i ↔ q i = true)
  | 0, _, h => absurd h (by omega)
  | k + 1, i, h => by
    have hlt := mQ_lt q k
    show (mQ q k + (if q k = true then 2 ^ k else 0)) / 2 ^ i % 2 = 1 ↔ _
    by_cases e : i = k
    · subst e
      by_cases z : q i = true
      · rw [if_pos z, Nat.add_div_right _ (Nat.two_pow_pos i), Nat.div_eq_of_lt hlt]
        exact ⟨fun _ => z, fun _ => rfl⟩
      · rw [if_neg z, Nat.add_zero, Nat.div_eq_of_lt hlt]
        exact ⟨fun y => absurd y (by decide), fun y => absurd y z⟩
    · rw [← mQ_bt q k i (by omega)]
      by_cases z : q k = true
      · rw [if_pos z, show 2 ^ k = 2 ^ i * (2 * 2 ^ (k - i - 1)) by rw [← Nat.pow_succ', ← Nat.pow_add]; congr 1; omega, Nat.add_mul_div_left _ _ (Nat.two_pow_pos i)]
        show (mQ q k / 2 ^ i + 2 * 2 ^ (k - i - 1)) % 2 = 1 ↔ mQ q k / 2 ^ i % 2 = 1
        omega
      · rw [if_neg z, Nat.add_zero]
theorem orB_all : (List.range 10).all (fun k => (List.range (2 ^ k)).all (fun g => decide (nI g ||| (nI 1 <<< (nI k &&& 31)) = nI (g + 2 ^ k)))) = true := by decide +kernel
theorem or_N {k g : Nat} (hk : k < 10) (hg : g < 2 ^ k) : nI g ||| (nI 1 <<< (nI k &&& 31)) = nI (g + 2 ^ k) := by
  have h0 := orB_all
  rw [List.all_eq_true] at h0
  have h1 := h0 k (List.mem_range.mpr hk)
  rw [List.all_eq_true] at h1
  exact decide_eq_true_iff.mp (h1 g (List.mem_range.mpr hg))
/-- a rider with another season -/
def aSn (a : Nat → Int32) (p s : Nat) : Nat → Int32 := up1 a (28 + p) (nI s)
theorem aSn_o {a : Nat → Int32} {p s i : Nat} (h : i ≠ 28 + p) : aSn a p s i = a i := up1_o h
theorem aSn_ok {a : Nat → Int32} (ha : aOk a) {p s : Nat} (hp : p < 4) (hs : s < 4) : aOk (aSn a p s) ∧ aR (aSn a p s) = aR a ∧ aE (aSn a p s) = aE a ∧ aSn a p s 40 = a 40 := by
  have hR : aR (aSn a p s) = aR a := by unfold aR; rw [aSn_o (by omega)]
  refine ⟨aOk_cg ha (fun i hi => aSn_o (by omega)) (fun r hr => ?_) (fun r hr => ?_) (fun r hr => aSn_o (by omega)) ?_, hR, ?_, aSn_o (by omega)⟩
  · by_cases e : r = p
    · exact ⟨s, by rw [e]; exact up1_s, hs⟩
    · rw [aSn_o (by omega)]; exact ha.se r hr
  · rw [aSn_o (by omega)]; exact ha.wa r hr
  · rw [aSn_o (by omega)]; exact ha.mo
  · have hst : ∀ r, r < 4 → mSt (rwS (aSn a p s)) r = mSt (rwS a) r ∧ mWm (rwS (aSn a p s)) r = mWm (rwS a) r := fun r hr => by
      refine ⟨?_, ?_⟩
      · show cN (aSn a p s (36 + r)) = cN (a (36 + r)); rw [aSn_o (by omega)]
      · show cN (aSn a p s (32 + r)) = cN (a (32 + r)); rw [aSn_o (by omega)]
    unfold aE
    rw [hR]
    have hR4 := ha.R.2
    have : ∀ n, n ≤ 4 → mEn (rwS (aSn a p s)) n = mEn (rwS a) n := by
      intro n
      induction n with
      | zero => intro _; rfl
      | succ n ih =>
        intro hn
        show mEn (rwS (aSn a p s)) n + (625 * (mSt (rwS (aSn a p s)) n * 4 ^ n) + 5 ^ n * mWm (rwS (aSn a p s)) n) = mEn (rwS a) n + (625 * (mSt (rwS a) n * 4 ^ n) + 5 ^ n * mWm (rwS a) n)
        rw [ih (by omega), (hst n (by omega)).1, (hst n (by omega)).2]
    exact this _ hR4
abbrev aFl (a : Nat → Int32) (f : Nat → Int64) (c : Nat) (mo : Int32) (r : Nat) : Prop := ∀ i, i < c → lN (mWa (aI a mo (i + 1)) r) = f i
def tb_m_noFelt : List (Nat × Instr × Nat) := [(0, .iload_n 1, 1), (1, .i2l, 1), (2, .lconst 0, 1), (3, .ldc2_w 303, 3), (6, .invokestatic 159, 3), (9, .ifCond .eq 12, 3), (12, .aload_n 0, 1), (13, .iload_n 2, 1), (14, .i2l, 1), (15, .invokevirtual 258, 3), (18, .ifCond .ne 6, 3), (21, .bipush (-2), 2), (23, .ireturn, 1), (24, .aload_n 0, 1), (25, .iload_n 1, 1), (26, .invokevirtual 325, 3), (29, .istore_n 3, 1), (30, .iload_n 3, 1), (31, .ifCond .eq 5, 3), (34, .iload_n 3, 1), (35, .ireturn, 1), (36, .aload_n 0, 1), (37, .getfield 87, 3), (40, .iload_n 1, 1), (41, .iaload, 1), (42, .i2l, 1), (43, .lconst 1, 1), (44, .ldc2_w 262, 3), (47, .invokestatic 159, 3), (50, .ifCond .ne 6, 3), (53, .bipush (-4), 2), (55, .ireturn, 1), (56, .iconst 0, 1), (57, .istore 4, 2), (59, .iload 4, 2), (61, .aload_n 0, 1), (62, .getfield 87, 3), (65, .iload_n 1, 1), (66, .iaload, 1), (67, .if_icmp .ge 34, 3), (70, .aload_n 0, 1), (71, .getfield 90, 3), (74, .bipush 40, 2), (76, .iload_n 1, 1), (77, .imul, 1), (78, .iload 4, 2), (80, .iadd, 1), (81, .laload, 1), (82, .lconst 0, 1), (83, .ldc2_w 363, 3), (86, .invokestatic 159, 3), (89, .ifCond .ne 6, 3), (92, .bipush (-3), 2), (94, .ireturn, 1), (95, .iinc 4 1, 3), (98, .goto (-39), 3), (101, .iconst 0, 1), (102, .ireturn, 1)]
theorem tk_m_noFelt : ∀ q ∈ tb_m_noFelt, decode M_m_noFelt.2.1 q.1 = .ok q.2 := by decide +kernel
theorem c_m_noFelt {G : ab_G} {S : ab_S} {a : Nat → Int32} (hm : mSh S) (hA : mA S = a) (ha : aOk a) (ht : mTr S) (t r : Int32) : ab_C G 2 M_m_noFelt [.ref 120, .int t, .int r] (sw S) (fun v w' => v = some (.int (aNf S (aR a) t r)) ∧ w' = sw S) := by
  have hR4 := ha.R.2
  have loop : ∀ (q c : Nat), cN t = q → q < 4 → sI S 143 q = nI c → c ≤ 40 → (0 ≤ t ∧ t ≤ 3) → (0 ≤ r ∧ cN r < aR a) → mNt S t = 0 → (1 ≤ c ∧ c ≤ 10) → ∀ (m i : Nat), i + m = c → (∀ j, j < i → 0 ≤ mTf S q j ∧ mTf S q j ≤ 4) → ∀ v1, ab_Ex G 2 M_m_noFelt 59 [some (.ref 120), some (.int (nI q)), some (.int r), some (.int v1), some (.int (nI i))] [] (sw S) (fun v w' => v = some (.int (aNf S (aR a) t r)) ∧ w' = sw S) := by
    intro q c et hq ec hc h1 h2 h3 h4 m
    have hcc : mTc S q = c := by show cN (sI S 143 q) = c; rw [ec, cN_nI (by omega)]
    induction m with
    | zero =>
      intro i hi hj v1
      obtain rfl : i = c := by omega
      refine x_iload 61 4 (ab_dd tk_m_noFelt 34 rfl) rfl rfl ?_
      refine x_aload_n 62 0 (ab_dd tk_m_noFelt 35 rfl) rfl rfl rfl ?_
      refine t_getP 65 143 (ab_dd tk_m_noFelt 36 rfl) rfl F_m_87 (by decide) (Nat.lt_of_lt_of_le (by decide) hm.1) (hm.2.1 0 (by decide)) rfl (hm.2.2 43 (by decide)) ?_
      refine x_iload_n 66 1 (ab_dd tk_m_noFelt 37 rfl) rfl rfl rfl ?_
      refine t_iald 67 q (ab_dd tk_m_noFelt 38 rfl) rfl (by decide) (Nat.lt_of_lt_of_le (by decide) hm.1) (hm.2.1 23 (by decide)) rfl (by omega) (by decide) (x_topn i ec ?_)
      refine x_icmp_ge_t 101 (ab_dd tk_m_noFelt 39 rfl) (by decide) ((nI_leI (a := i) (b := i) (by omega) (by omega)).mpr (show i ≤ i by omega)) ?_
      refine x_iconst 102 0 (ab_dd tk_m_noFelt 56 rfl) rfl (by decide) (x_topn 0 rfl ?_)
      exact x_iret (ab_dd tk_m_noFelt 57 rfl) ⟨rI (by unfold aNf; rw [if_pos ⟨h1, h2⟩, if_pos h3, et, hcc, if_pos h4, if_pos hj] <;> rfl), rfl⟩
    | succ m ih =>
      intro i hi hj v1
      refine x_iload 61 4 (ab_dd tk_m_noFelt 34 rfl) rfl rfl ?_
      refine x_aload_n 62 0 (ab_dd tk_m_noFelt 35 rfl) rfl rfl rfl ?_
      refine t_getP 65 143 (ab_dd tk_m_noFelt 36 rfl) rfl F_m_87 (by decide) (Nat.lt_of_lt_of_le (by decide) hm.1) (hm.2.1 0 (by decide)) rfl (hm.2.2 43 (by decide)) ?_
      refine x_iload_n 66 1 (ab_dd tk_m_noFelt 37 rfl) rfl rfl rfl ?_
      refine t_iald 67 q (ab_dd tk_m_noFelt 38 rfl) rfl (by decide) (Nat.lt_of_lt_of_le (by decide) hm.1) (hm.2.1 23 (by decide)) rfl (by omega) (by decide) (x_topn c ec ?_)
      refine x_icmp_ge_f 70 (ab_dd tk_m_noFelt 39 rfl) rfl 101 (by decide) (fun z => absurd ((nI_leI (a := c) (b := i) (by omega) (by omega)).mp z) (show ¬ (c ≤ i) by omega)) ?_
      refine x_aload_n 71 0 (ab_dd tk_m_noFelt 40 rfl) rfl rfl rfl ?_
      refine t_getP 74 144 (ab_dd tk_m_noFelt 41 rfl) rfl F_m_90 (by decide) (Nat.lt_of_lt_of_le (by decide) hm.1) (hm.2.1 0 (by decide)) rfl (hm.2.2 44 (by decide)) ?_
      refine x_bipush 76 40 (ab_dd tk_m_noFelt 42 rfl) rfl (by decide) (x_topn 40 rfl ?_)
      refine x_iload_n 77 1 (ab_dd tk_m_noFelt 43 rfl) rfl rfl rfl ?_
      refine x_imul 78 (ab_dd tk_m_noFelt 44 rfl) rfl (x_topn (40 * q) (pk_mul _ _) ?_)
      refine x_iload 80 4 (ab_dd tk_m_noFelt 45 rfl) rfl rfl ?_
      refine x_iadd 81 (ab_dd tk_m_noFelt 46 rfl) rfl (x_topn ((40 * q) + i) (nI_add _ _) ?_)
      refine t_lald 82 ((40 * q) + i) (ab_dd tk_m_noFelt 47 rfl) rfl (by decide) (Nat.lt_of_lt_of_le (by decide) hm.1) (hm.2.1 24 (by decide)) rfl (by omega) (by decide) (x_topL (mTf S q i) rfl ?_)
      refine x_lconst 83 0 (ab_dd tk_m_noFelt 48 rfl) rfl (by decide) ?_
      refine x_ldc2 86 (ab_dd tk_m_noFelt 49 rfl) rfl C_m_363 ?_
      refine x_callS 89 M_m_within 0 3 [_, _, _] (ab_dd tk_m_noFelt 50 rfl) rfl (by decide) K_m_within T_m_within L_m_159 rfl (Nat.le_of_ble_eq_true rfl) (c_m_within _ _ _ _) (fun v1 w1 h1 => ?_)
      obtain ⟨rfl, rfl⟩ := h1
      refine xb_if_ne 92 95 (ab_dd tk_m_noFelt 51 rfl) rfl (by decide) (fun h89 => ?_) (fun h89 => ?_)
      · refine xn_iinc 98 4 (fun y => [some (.ref 120), some (.int (nI q)), some (.int r), some (.int v1), some (.int y)]) (i + 1) (ab_dd tk_m_noFelt 54 rfl) rfl (by decide) rfl (fun _ => rfl) (iinc_p 1) ?_
        refine x_goto 59 (ab_dd tk_m_noFelt 55 rfl) (by decide) ?_
        refine ih (i + 1) (by omega) (fun j hj2 => ?_) v1
        by_cases e : j = i
        · rw [e]; exact h89
        · exact hj j (by omega)
      · refine x_bipush 94 (-3) (ab_dd tk_m_noFelt 52 rfl) rfl (by decide) ?_
        exact x_iret (ab_dd tk_m_noFelt 53 rfl) ⟨rI (by unfold aNf; rw [if_pos ⟨h1, h2⟩, if_pos h3, et, hcc, if_pos h4, if_neg (fun z => h89 (z i (by omega)))]), rfl⟩
  refine x_enter [some (.ref 120), some (.int t), some (.int r), none, none] (by decide) (Nat.le_of_ble_eq_true rfl) rfl (fun v w' h => by obtain ⟨rfl, rfl⟩ := h; rfl) ?_
  refine x_iload_n 1 1 (ab_dd tk_m_noFelt 0 rfl) rfl rfl rfl ?_
  refine x_i2l 2 (ab_dd tk_m_noFelt 1 rfl) rfl ?_
  refine x_lconst 3 0 (ab_dd tk_m_noFelt 2 rfl) rfl (by decide) ?_
  refine x_ldc2 6 (ab_dd tk_m_noFelt 3 rfl) rfl C_m_303 ?_
  refine x_callS 9 M_m_within 0 3 [_, _, _] (ab_dd tk_m_noFelt 4 rfl) rfl (by decide) K_m_within T_m_within L_m_159 rfl (Nat.le_of_ble_eq_true rfl) (w_inI 0 3 rfl rfl _) (fun v1 w1 h1 => ?_)
  obtain ⟨rfl, rfl⟩ := h1
  refine xb_if_eq 12 21 (ab_dd tk_m_noFelt 5 rfl) rfl (by decide) (fun h9 => ?_) (fun h9 => ?_)
  · refine x_bipush 23 (-2) (ab_dd tk_m_noFelt 11 rfl) rfl (by decide) ?_
    exact x_iret (ab_dd tk_m_noFelt 12 rfl) ⟨rI (if_neg (fun z => h9 z.1)).symm, rfl⟩
  · refine x_aload_n 13 0 (ab_dd tk_m_noFelt 6 rfl) rfl rfl rfl ?_
    refine x_iload_n 14 2 (ab_dd tk_m_noFelt 7 rfl) rfl rfl rfl ?_
    refine x_i2l 15 (ab_dd tk_m_noFelt 8 rfl) rfl ?_
    refine t_callV 18 M_m_isRider 1 1 [_] (ab_dd tk_m_noFelt 9 rfl) rfl (by decide) K_m_isRider V_m_isRider.1 V_m_isRider.2 L_m_258 rfl (Nat.le_of_ble_eq_true rfl) (by decide) (Nat.lt_of_lt_of_le (by decide) hm.1) (hm.2.1 0 (by decide)) rfl (w_isRider (by exact hm) (by exact hA) ha _) (fun v1 w1 h1 => ?_)
    obtain ⟨rfl, rfl⟩ := h1
    refine xb_if_ne 21 24 (ab_dd tk_m_noFelt 10 rfl) rfl (by decide) (fun h18 => ?_) (fun h18 => ?_)
    · refine x_aload_n 25 0 (ab_dd tk_m_noFelt 13 rfl) rfl rfl rfl ?_
      refine x_iload_n 26 1 (ab_dd tk_m_noFelt 14 rfl) rfl rfl rfl ?_
      refine t_callV 29 M_m_noTray 1 1 [_] (ab_dd tk_m_noFelt 15 rfl) rfl (by decide) K_m_noTray V_m_noTray.1 V_m_noTray.2 L_m_325 rfl (Nat.le_of_ble_eq_true rfl) (by decide) (Nat.lt_of_lt_of_le (by decide) hm.1) (hm.2.1 0 (by decide)) rfl (c_m_noTray (by exact hm) _) (fun v1 w1 h1 => ?_)
      obtain ⟨rfl, rfl⟩ := h1
      refine x_topi (fun v1 ev1 => ?_)
      refine x_istore_n 30 [some (.ref 120), some (.int t), some (.int r), some (.int v1), none] 3 (ab_dd tk_m_noFelt 16 rfl) rfl rfl (by decide) rfl ?_
      refine x_iload_n 31 3 (ab_dd tk_m_noFelt 17 rfl) rfl rfl rfl ?_
      refine x_if_eq 34 36 (ab_dd tk_m_noFelt 18 rfl) rfl (by decide) (fun h31 => ?_) (fun h31 => ?_)
      · obtain ⟨q, hq, etq, et⟩ := in_get (n := 3) (by decide) h9
        obtain ⟨c, ec, hc⟩ := ht q (by omega)
        rw [show some (Value.int t) = some (Value.int (nI q)) by rw [etq]]
        refine x_aload_n 37 0 (ab_dd tk_m_noFelt 21 rfl) rfl rfl rfl ?_
        refine t_getP 40 143 (ab_dd tk_m_noFelt 22 rfl) rfl F_m_87 (by decide) (Nat.lt_of_lt_of_le (by decide) hm.1) (hm.2.1 0 (by decide)) rfl (hm.2.2 43 (by decide)) ?_
        refine x_iload_n 41 1 (ab_dd tk_m_noFelt 23 rfl) rfl rfl rfl ?_
        refine t_iald 42 q (ab_dd tk_m_noFelt 24 rfl) rfl (by decide) (Nat.lt_of_lt_of_le (by decide) hm.1) (hm.2.1 23 (by decide)) rfl (by omega) (by decide) (x_topn c ec ?_)
        refine x_i2l 43 (ab_dd tk_m_noFelt 25 rfl) rfl (x_topL (lN c) (nI_l (by omega)) ?_)
        refine x_lconst 44 1 (ab_dd tk_m_noFelt 26 rfl) rfl (by decide) ?_
        refine x_ldc2 47 (ab_dd tk_m_noFelt 27 rfl) rfl C_m_262 ?_
        refine x_callS 50 M_m_within 0 3 [_, _, _] (ab_dd tk_m_noFelt 28 rfl) rfl (by decide) K_m_within T_m_within L_m_159 rfl (Nat.le_of_ble_eq_true rfl) (w_inN 1 10 _ rfl rfl (by decide) (by decide) (by omega)) (fun v1 w1 h1 => ?_)
        obtain ⟨rfl, rfl⟩ := h1
        refine xb_if_ne 53 56 (ab_dd tk_m_noFelt 29 rfl) rfl (by decide) (fun h50 => ?_) (fun h50 => ?_)
        · refine x_iconst 57 0 (ab_dd tk_m_noFelt 32 rfl) rfl (by decide) (x_topn 0 rfl ?_)
          refine x_istore 59 [some (.ref 120), some (.int (nI q)), some (.int r), some (.int v1), some (.int (nI 0))] 4 (ab_dd tk_m_noFelt 33 rfl) rfl (by decide) rfl ?_
          exact loop q c et (by omega) ec hc h9 h18 (by rw [← ev1]; exact h31) h50 c 0 (by omega) (fun j hj => absurd hj (by omega)) v1
        · refine x_bipush 55 (-4) (ab_dd tk_m_noFelt 30 rfl) rfl (by decide) ?_
          exact x_iret (ab_dd tk_m_noFelt 31 rfl) ⟨rI (by subst ev1; unfold aNf; rw [if_pos ⟨h9, h18⟩, if_pos h31, et, show mTc S q = c by show cN (sI S 143 q) = c; rw [ec, cN_nI (by omega)], if_neg h50]), rfl⟩
      · refine x_iload_n 35 3 (ab_dd tk_m_noFelt 19 rfl) rfl rfl rfl ?_
        exact x_iret (ab_dd tk_m_noFelt 20 rfl) ⟨rI (by subst ev1; unfold aNf; rw [if_pos ⟨h9, h18⟩, if_neg h31]), rfl⟩
    · refine x_bipush 23 (-2) (ab_dd tk_m_noFelt 11 rfl) rfl (by decide) ?_
      exact x_iret (ab_dd tk_m_noFelt 12 rfl) ⟨rI (if_neg (fun z => h18 z.2)).symm, rfl⟩
def tb_m_isFelt : List (Nat × Instr × Nat) := [(0, .aload_n 0, 1), (1, .invokevirtual 266, 3), (4, .istore 4, 2), (6, .iconst 0, 1), (7, .istore 5, 2), (9, .iload 5, 2), (11, .aload_n 0, 1), (12, .getfield 87, 3), (15, .iload_n 1, 1), (16, .iaload, 1), (17, .if_icmp .ge 44, 3), (20, .aload_n 0, 1), (21, .iload 4, 2), (23, .iconst 0, 1), (24, .iload_n 3, 1), (25, .invokevirtual 273, 3), (28, .istore 4, 2), (30, .iload 4, 2), (32, .iload_n 2, 1), (33, .invokestatic 228, 3), (36, .i2l, 1), (37, .aload_n 0, 1), (38, .getfield 90, 3), (41, .bipush 40, 2), (43, .iload_n 1, 1), (44, .imul, 1), (45, .iload 5, 2), (47, .iadd, 1), (48, .laload, 1), (49, .lcmp, 1), (50, .ifCond .eq 5, 3), (53, .iconst 0, 1), (54, .ireturn, 1), (55, .iinc 5 1, 3), (58, .goto (-49), 3), (61, .iconst 1, 1), (62, .ireturn, 1)]
theorem tk_m_isFelt : ∀ q ∈ tb_m_isFelt, decode M_m_isFelt.2.1 q.1 = .ok q.2 := by decide +kernel
theorem c_m_isFelt {G : ab_G} {S : ab_S} {a : Nat → Int32} (hm : mSh S) (hA : mA S = a) (ha : aOk a) (q c p : Nat) (mo : Int32) (hq : q < 4) (ec : sI S 143 q = nI c) (hc : c ≤ 40) (hp : p < 4) : ab_C G 5 M_m_isFelt [.ref 120, .int (nI q), .int (nI p), .int mo] (sw S) (rSt [125, 126] S (some (.int (if aFl a (mTf S q) c mo p then 1 else 0))) a) := by
  have loop : ∀ (m i : Nat), i + m = c → ∀ S1, mSh S1 → mA S1 = a → sEq [125, 126] S S1 → (∀ j, j < i → lN (mWa (aI a mo (j + 1)) p) = mTf S q j) → ab_Ex G 5 M_m_isFelt 9 [some (.ref 120), some (.int (nI q)), some (.int (nI p)), some (.int mo), some (.int (nI (aI a mo i))), some (.int (nI i))] [] (sw S1) (rSt [125, 126] S (some (.int (if aFl a (mTf S q) c mo p then 1 else 0))) a) := by
    intro m
    induction m with
    | zero =>
      intro i hi S1 hm1 hA1 hE1 hj
      obtain rfl : i = c := by omega
      refine x_iload 11 5 (ab_dd tk_m_isFelt 5 rfl) rfl rfl ?_
      refine x_aload_n 12 0 (ab_dd tk_m_isFelt 6 rfl) rfl rfl rfl ?_
      refine t_getP 15 143 (ab_dd tk_m_isFelt 7 rfl) rfl F_m_87 (by decide) (Nat.lt_of_lt_of_le (by decide) hm1.1) (hm1.2.1 0 (by decide)) rfl (hm1.2.2 43 (by decide)) ?_
      refine x_iload_n 16 1 (ab_dd tk_m_isFelt 8 rfl) rfl rfl rfl ?_
      refine t_iald 17 q (ab_dd tk_m_isFelt 9 rfl) rfl (by decide) (Nat.lt_of_lt_of_le (by decide) hm1.1) (hm1.2.1 23 (by decide)) rfl (by omega) (by decide) (x_topn i (by rw [hE1.2.2.1 143 (by decide)]; exact ec) ?_)
      refine x_icmp_ge_t 61 (ab_dd tk_m_isFelt 10 rfl) (by decide) ((nI_leI (a := i) (b := i) (by omega) (by omega)).mpr (show i ≤ i by omega)) ?_
      refine x_iconst 62 1 (ab_dd tk_m_isFelt 35 rfl) rfl (by decide) (x_topn 1 rfl ?_)
      exact x_iret (ab_dd tk_m_isFelt 36 rfl) ⟨rI (if_pos hj).symm, S1, rfl, hm1, hA1, hE1⟩
    | succ m ih =>
      intro i hi S1 hm1 hA1 hE1 hj
      have hlt := (aI_ok ha mo (i + 1)).1
      have hw5 := mWa_lt (aI a mo (i + 1)) p
      refine x_iload 11 5 (ab_dd tk_m_isFelt 5 rfl) rfl rfl ?_
      refine x_aload_n 12 0 (ab_dd tk_m_isFelt 6 rfl) rfl rfl rfl ?_
      refine t_getP 15 143 (ab_dd tk_m_isFelt 7 rfl) rfl F_m_87 (by decide) (Nat.lt_of_lt_of_le (by decide) hm1.1) (hm1.2.1 0 (by decide)) rfl (hm1.2.2 43 (by decide)) ?_
      refine x_iload_n 16 1 (ab_dd tk_m_isFelt 8 rfl) rfl rfl rfl ?_
      refine t_iald 17 q (ab_dd tk_m_isFelt 9 rfl) rfl (by decide) (Nat.lt_of_lt_of_le (by decide) hm1.1) (hm1.2.1 23 (by decide)) rfl (by omega) (by decide) (x_topn c (by rw [hE1.2.2.1 143 (by decide)]; exact ec) ?_)
      refine x_icmp_ge_f 20 (ab_dd tk_m_isFelt 10 rfl) rfl 61 (by decide) (fun z => absurd ((nI_leI (a := c) (b := i) (by omega) (by omega)).mp z) (show ¬ (c ≤ i) by omega)) ?_
      refine x_aload_n 21 0 (ab_dd tk_m_isFelt 11 rfl) rfl rfl rfl ?_
      refine x_iload 23 4 (ab_dd tk_m_isFelt 12 rfl) rfl rfl ?_
      refine x_iconst 24 0 (ab_dd tk_m_isFelt 13 rfl) rfl (by decide) (x_topn 0 rfl ?_)
      refine x_iload_n 25 3 (ab_dd tk_m_isFelt 14 rfl) rfl rfl rfl ?_
      refine t_callV 28 M_m_stopTo 4 3 [_, _, _] (ab_dd tk_m_isFelt 15 rfl) rfl (by decide) K_m_stopTo V_m_stopTo.1 V_m_stopTo.2 L_m_273 rfl (Nat.le_of_ble_eq_true rfl) (by decide) (Nat.lt_of_lt_of_le (by decide) hm1.1) (hm1.2.1 0 (by decide)) rfl (w_stopTo (by exact hm1) (by exact hA1) ha (aI a mo i) 0 _ (aI_ok ha mo i) (Or.inr rfl)) (fun v1 w1 h1 => ?_)
      obtain ⟨rfl, U1, rfl, um1, uA1, uE1⟩ := h1
      rw [← aI_s]
      refine x_istore 30 [some (.ref 120), some (.int (nI q)), some (.int (nI p)), some (.int mo), some (.int (nI (aI a mo (i + 1)))), some (.int (nI i))] 4 (ab_dd tk_m_isFelt 16 rfl) rfl (by decide) rfl ?_
      refine x_iload 32 4 (ab_dd tk_m_isFelt 17 rfl) rfl rfl ?_
      refine x_iload_n 33 2 (ab_dd tk_m_isFelt 18 rfl) rfl rfl rfl ?_
      refine x_callS 36 M_m_warmthIn 1 2 [_, _] (ab_dd tk_m_isFelt 19 rfl) rfl (by decide) K_m_warmthIn T_m_warmthIn L_m_228 rfl (Nat.le_of_ble_eq_true rfl) (w_warmthIn _ (aI a mo (i + 1)) p hlt hp) (fun v1 w1 h1 => ?_)
      obtain ⟨rfl, rfl⟩ := h1
      refine x_i2l 37 (ab_dd tk_m_isFelt 20 rfl) rfl (x_topL (lN (mWa (aI a mo (i + 1)) p)) (nI_l (by omega)) ?_)
      refine x_aload_n 38 0 (ab_dd tk_m_isFelt 21 rfl) rfl rfl rfl ?_
      refine t_getP 41 144 (ab_dd tk_m_isFelt 22 rfl) rfl F_m_90 (by decide) (Nat.lt_of_lt_of_le (by decide) um1.1) (um1.2.1 0 (by decide)) rfl (um1.2.2 44 (by decide)) ?_
      refine x_bipush 43 40 (ab_dd tk_m_isFelt 23 rfl) rfl (by decide) (x_topn 40 rfl ?_)
      refine x_iload_n 44 1 (ab_dd tk_m_isFelt 24 rfl) rfl rfl rfl ?_
      refine x_imul 45 (ab_dd tk_m_isFelt 25 rfl) rfl (x_topn (40 * q) (pk_mul _ _) ?_)
      refine x_iload 47 5 (ab_dd tk_m_isFelt 26 rfl) rfl rfl ?_
      refine x_iadd 48 (ab_dd tk_m_isFelt 27 rfl) rfl (x_topn ((40 * q) + i) (nI_add _ _) ?_)
      refine t_lald 49 ((40 * q) + i) (ab_dd tk_m_isFelt 28 rfl) rfl (by decide) (Nat.lt_of_lt_of_le (by decide) um1.1) (um1.2.1 24 (by decide)) rfl (by omega) (by decide) (x_topL (mTf S q i) (by rw [uE1.2.2.2.1 144 (by decide), hE1.2.2.2.1 144 (by decide)]) ?_)
      refine x_lcmp 50 (ab_dd tk_m_isFelt 29 rfl) rfl ?_
      refine x_if_eq 53 55 (ab_dd tk_m_isFelt 30 rfl) rfl (by decide) (fun h50 => ?_) (fun h50 => ?_)
      · refine xn_iinc 58 5 (fun y => [some (.ref 120), some (.int (nI q)), some (.int (nI p)), some (.int mo), some (.int (nI (aI a mo (i + 1)))), some (.int y)]) (i + 1) (ab_dd tk_m_isFelt 33 rfl) rfl (by decide) rfl (fun _ => rfl) (iinc_p 1) ?_
        refine x_goto 9 (ab_dd tk_m_isFelt 34 rfl) (by decide) ?_
        refine ih (i + 1) (by omega) _ um1 uA1 (hE1.tr (uE1.mono (by decide))) (fun j hj2 => ?_)
        by_cases e : j = i
        · rw [e]; exact (lg_cmp_eq _ _).mp h50
        · exact hj j (by omega)
      · refine x_iconst 54 0 (ab_dd tk_m_isFelt 31 rfl) rfl (by decide) (x_topn 0 rfl ?_)
        exact x_iret (ab_dd tk_m_isFelt 32 rfl) ⟨rI (if_neg (fun z => h50 ((lg_cmp_eq _ _).mpr (z i (by omega))))).symm, _, rfl, um1, uA1, (hE1.tr (uE1.mono (by decide)))⟩
  refine x_enter [some (.ref 120), some (.int (nI q)), some (.int (nI p)), some (.int mo), none, none] (by decide) (Nat.le_of_ble_eq_true rfl) rfl (fun v w' h => by obtain ⟨rfl, -⟩ := h; show narrow _ _ = _; split <;> rfl) ?_
  refine x_aload_n 1 0 (ab_dd tk_m_isFelt 0 rfl) rfl rfl rfl ?_
  refine t_callV 4 M_m_standNow 1 0 [] (ab_dd tk_m_isFelt 1 rfl) rfl (by decide) K_m_standNow V_m_standNow.1 V_m_standNow.2 L_m_266 rfl (Nat.le_of_ble_eq_true rfl) (by decide) (Nat.lt_of_lt_of_le (by decide) hm.1) (hm.2.1 0 (by decide)) rfl (w_standNow (by exact hm) (by exact hA) ha) (fun v1 w1 h1 => ?_)
  obtain ⟨rfl, rfl⟩ := h1
  refine x_istore 6 [some (.ref 120), some (.int (nI q)), some (.int (nI p)), some (.int mo), some (.int (nI (aE a))), none] 4 (ab_dd tk_m_isFelt 2 rfl) rfl (by decide) rfl ?_
  refine x_iconst 7 0 (ab_dd tk_m_isFelt 3 rfl) rfl (by decide) (x_topn 0 rfl ?_)
  refine x_istore 9 [some (.ref 120), some (.int (nI q)), some (.int (nI p)), some (.int mo), some (.int (nI (aE a))), some (.int (nI 0))] 5 (ab_dd tk_m_isFelt 4 rfl) rfl (by decide) rfl ?_
  exact loop c 0 (by omega) S hm hA sEq.rf (fun j hj => absurd hj (by omega))
def aSo (a : Nat → Int32) (f : Nat → Int64) (c p : Nat) : Nat := mQ (fun s => decide (aFl (aSn a p s) f c (a 40) p)) 4
def tb_m_seasonsOf : List (Nat × Instr × Nat) := [(0, .aload_n 0, 1), (1, .getfield 13, 3), (4, .bipush 28, 2), (6, .iload_n 2, 1), (7, .iadd, 1), (8, .iaload, 1), (9, .istore_n 3, 1), (10, .iconst 0, 1), (11, .istore 4, 2), (13, .iconst 0, 1), (14, .istore 5, 2), (16, .iload 5, 2), (18, .iconst 4, 1), (19, .if_icmp .ge 49, 3), (22, .aload_n 0, 1), (23, .getfield 13, 3), (26, .bipush 28, 2), (28, .iload_n 2, 1), (29, .iadd, 1), (30, .iload 5, 2), (32, .iastore, 1), (33, .iload 4, 2), (35, .aload_n 0, 1), (36, .iload_n 1, 1), (37, .iload_n 2, 1), (38, .aload_n 0, 1), (39, .getfield 13, 3), (42, .bipush 40, 2), (44, .iaload, 1), (45, .invokevirtual 420, 3), (48, .ifCond .eq 10, 3), (51, .iconst 1, 1), (52, .iload 5, 2), (54, .ishl, 1), (55, .goto 4, 3), (58, .iconst 0, 1), (59, .ior, 1), (60, .istore 4, 2), (62, .iinc 5 1, 3), (65, .goto (-49), 3), (68, .aload_n 0, 1), (69, .getfield 13, 3), (72, .bipush 28, 2), (74, .iload_n 2, 1), (75, .iadd, 1), (76, .iload_n 3, 1), (77, .iastore, 1), (78, .iload 4, 2), (80, .ireturn, 1)]
theorem tk_m_seasonsOf : ∀ q ∈ tb_m_seasonsOf, decode M_m_seasonsOf.2.1 q.1 = .ok q.2 := by decide +kernel
theorem c_m_seasonsOf {G : ab_G} {S : ab_S} {a : Nat → Int32} (hm : mSh S) (hA : mA S = a) (ha : aOk a) (q c p : Nat) (hq : q < 4) (ec : sI S 143 q = nI c) (hc : c ≤ 40) (hp : p < 4) : ab_C G 6 M_m_seasonsOf [.ref 120, .int (nI q), .int (nI p)] (sw S) (rSt [121, 125, 126] S (some (.int (nI (aSo a (mTf S q) c p)))) a) := by
  have loop : ∀ (m k : Nat), k + m = 4 → ∀ S1, mSh S1 → (∀ i, i ≠ 28 + p → mA S1 i = a i) → sEq [121, 125, 126] S S1 → ab_Ex G 6 M_m_seasonsOf 16 [some (.ref 120), some (.int (nI q)), some (.int (nI p)), some (.int (a (28 + p))), some (.int (nI (mQ (fun s => decide (aFl (aSn a p s) (mTf S q) c (a 40) p)) k))), some (.int (nI k))] [] (sw S1) (rSt [121, 125, 126] S (some (.int (nI (aSo a (mTf S q) c p)))) a) := by
    intro m
    induction m with
    | zero =>
      intro k hk S1 hm1 hA1 hE1
      obtain rfl : k = 4 := by omega
      refine x_iload 18 5 (ab_dd tk_m_seasonsOf 11 rfl) rfl rfl ?_
      refine x_iconst 19 4 (ab_dd tk_m_seasonsOf 12 rfl) rfl (by decide) (x_topn 4 rfl ?_)
      refine x_icmp_ge_t 68 (ab_dd tk_m_seasonsOf 13 rfl) (by decide) ((nI_leI (a := 4) (b := 4) (by omega) (by omega)).mpr (show 4 ≤ 4 by omega)) ?_
      refine x_aload_n 69 0 (ab_dd tk_m_seasonsOf 40 rfl) rfl rfl rfl ?_
      refine t_getP 72 121 (ab_dd tk_m_seasonsOf 41 rfl) rfl F_m_13 (by decide) (Nat.lt_of_lt_of_le (by decide) hm1.1) (hm1.2.1 0 (by decide)) rfl (hm1.2.2 1 (by decide)) ?_
      refine x_bipush 74 28 (ab_dd tk_m_seasonsOf 42 rfl) rfl (by decide) (x_topn 28 rfl ?_)
      refine x_iload_n 75 2 (ab_dd tk_m_seasonsOf 43 rfl) rfl rfl rfl ?_
      refine x_iadd 76 (ab_dd tk_m_seasonsOf 44 rfl) rfl (x_topn (28 + p) (nI_add _ _) ?_)
      refine x_iload_n 77 3 (ab_dd tk_m_seasonsOf 45 rfl) rfl rfl rfl ?_
      refine t_iast 78 (28 + p) (ab_dd tk_m_seasonsOf 46 rfl) rfl (by decide) (Nat.lt_of_lt_of_le (by decide) hm1.1) (hm1.2.1 1 (by decide)) rfl (by omega) (by decide) ?_
      refine x_iload 80 4 (ab_dd tk_m_seasonsOf 47 rfl) rfl rfl ?_
      exact x_iret (ab_dd tk_m_seasonsOf 48 rfl) ⟨rfl, _, rfl, hm1, by
        funext i
        show up2 (sI S1) 121 (28 + p) (a (28 + p)) 121 i = a i
        by_cases e : i = 28 + p
        · rw [e, up2_s]
        · rw [up2_k e]; exact hA1 i e, (hE1.pI (by decide))⟩
    | succ m ih =>
      intro k hk S1 hm1 hA1 hE1
      obtain ⟨k1, k2, k3, k4⟩ := aSn_ok ha hp (show k < 4 by omega)
      have hA2 : mA (pI S1 121 (28 + p) (nI k)) = aSn a p k := by
        funext i
        show up2 (sI S1) 121 (28 + p) (nI k) 121 i = up1 a (28 + p) (nI k) i
        by_cases e : i = 28 + p
        · rw [e, up2_s, up1_s]
        · rw [up2_k e, up1_o e]; exact hA1 i e
      have hqk := mQ_lt (fun s => decide (aFl (aSn a p s) (mTf S q) c (a 40) p)) k
      have hI := ih (k + 1) (by omega)
      have ecU : sI (pI S1 121 (28 + p) (nI k)) 143 q = nI c := by show up2 (sI S1) 121 (28 + p) (nI k) 143 q = _; rw [up2_a (by decide), hE1.2.2.1 143 (by decide)]; exact ec
      have ef : mTf (pI S1 121 (28 + p) (nI k)) q = mTf S q := by
        funext j
        show sJ S1 144 (40 * q + j) = _
        rw [hE1.2.2.2.1 144 (by decide)]
      refine x_iload 18 5 (ab_dd tk_m_seasonsOf 11 rfl) rfl rfl ?_
      refine x_iconst 19 4 (ab_dd tk_m_seasonsOf 12 rfl) rfl (by decide) (x_topn 4 rfl ?_)
      refine x_icmp_ge_f 22 (ab_dd tk_m_seasonsOf 13 rfl) rfl 68 (by decide) (fun z => absurd ((nI_leI (a := 4) (b := k) (by omega) (by omega)).mp z) (show ¬ (4 ≤ k) by omega)) ?_
      refine x_aload_n 23 0 (ab_dd tk_m_seasonsOf 14 rfl) rfl rfl rfl ?_
      refine t_getP 26 121 (ab_dd tk_m_seasonsOf 15 rfl) rfl F_m_13 (by decide) (Nat.lt_of_lt_of_le (by decide) hm1.1) (hm1.2.1 0 (by decide)) rfl (hm1.2.2 1 (by decide)) ?_
      refine x_bipush 28 28 (ab_dd tk_m_seasonsOf 16 rfl) rfl (by decide) (x_topn 28 rfl ?_)
      refine x_iload_n 29 2 (ab_dd tk_m_seasonsOf 17 rfl) rfl rfl rfl ?_
      refine x_iadd 30 (ab_dd tk_m_seasonsOf 18 rfl) rfl (x_topn (28 + p) (nI_add _ _) ?_)
      refine x_iload 32 5 (ab_dd tk_m_seasonsOf 19 rfl) rfl rfl ?_
      refine t_iast 33 (28 + p) (ab_dd tk_m_seasonsOf 20 rfl) rfl (by decide) (Nat.lt_of_lt_of_le (by decide) hm1.1) (hm1.2.1 1 (by decide)) rfl (by omega) (by decide) ?_
      refine x_iload 35 4 (ab_dd tk_m_seasonsOf 21 rfl) rfl rfl ?_
      refine x_aload_n 36 0 (ab_dd tk_m_seasonsOf 22 rfl) rfl rfl rfl ?_
      refine x_iload_n 37 1 (ab_dd tk_m_seasonsOf 23 rfl) rfl rfl rfl ?_
      refine x_iload_n 38 2 (ab_dd tk_m_seasonsOf 24 rfl) rfl rfl rfl ?_
      refine x_aload_n 39 0 (ab_dd tk_m_seasonsOf 25 rfl) rfl rfl rfl ?_
      refine t_getP 42 121 (ab_dd tk_m_seasonsOf 26 rfl) rfl F_m_13 (by decide) (Nat.lt_of_lt_of_le (by decide) hm1.1) (hm1.2.1 0 (by decide)) rfl (hm1.2.2 1 (by decide)) ?_
      refine x_bipush 44 40 (ab_dd tk_m_seasonsOf 27 rfl) rfl (by decide) (x_topn 40 rfl ?_)
      refine t_iald 45 40 (ab_dd tk_m_seasonsOf 28 rfl) rfl (by decide) (Nat.lt_of_lt_of_le (by decide) hm1.1) (hm1.2.1 1 (by decide)) rfl (by decide) (by decide) (x_topx (a 40) ((congrFun hA2 40).trans k4) ?_)
      have hft := c_m_isFelt (G := G) (by exact hm1) hA2 k1 q c p (a 40) hq ecU hc hp
      rw [ef] at hft
      refine t_callV 48 M_m_isFelt 5 3 [_, _, _] (ab_dd tk_m_seasonsOf 29 rfl) rfl (by decide) K_m_isFelt V_m_isFelt.1 V_m_isFelt.2 L_m_420 rfl (Nat.le_of_ble_eq_true rfl) (by decide) (Nat.lt_of_lt_of_le (by decide) hm1.1) (hm1.2.1 0 (by decide)) rfl (hft) (fun v1 w1 h1 => ?_)
      obtain ⟨rfl, U1, rfl, um1, uA1, uE1⟩ := h1
      refine xb_if_eq 51 58 (ab_dd tk_m_seasonsOf 30 rfl) rfl (by decide) (fun h48 => ?_) (fun h48 => ?_)
      · refine x_iconst 59 0 (ab_dd tk_m_seasonsOf 35 rfl) rfl (by decide) (x_topn 0 rfl ?_)
        refine x_ior 60 (ab_dd tk_m_seasonsOf 36 rfl) rfl (x_topn (mQ (fun s => decide (aFl (aSn a p s) (mTf S q) c (a 40) p)) k) Int32.or_zero ?_)
        refine x_istore 62 [some (.ref 120), some (.int (nI q)), some (.int (nI p)), some (.int (a (28 + p))), some (.int (nI (mQ (fun s => decide (aFl (aSn a p s) (mTf S q) c (a 40) p)) k))), some (.int (nI k))] 4 (ab_dd tk_m_seasonsOf 37 rfl) rfl (by decide) rfl ?_
        refine xn_iinc 65 5 (fun y => [some (.ref 120), some (.int (nI q)), some (.int (nI p)), some (.int (a (28 + p))), some (.int (nI (mQ (fun s => decide (aFl (aSn a p s) (mTf S q) c (a 40) p)) k))), some (.int y)]) (k + 1) (ab_dd tk_m_seasonsOf 38 rfl) rfl (by decide) rfl (fun _ => rfl) (iinc_p 1) ?_
        refine x_goto 16 (ab_dd tk_m_seasonsOf 39 rfl) (by decide) ?_
        rw [show mQ (fun s => decide (aFl (aSn a p s) (mTf S q) c (a 40) p)) (k + 1) = mQ (fun s => decide (aFl (aSn a p s) (mTf S q) c (a 40) p)) k from by show mQ (fun s => decide (aFl (aSn a p s) (mTf S q) c (a 40) p)) k + (if decide _ = true then _ else 0) = _; rw [if_neg (by rw [decide_eq_true_iff]; exact h48), Nat.add_zero]] at hI
        exact hI _ um1 (fun i hi => by rw [uA1]; exact aSn_o hi) ((hE1.pI (by decide)).tr (uE1.mono (by decide)))
      · refine x_iconst 52 1 (ab_dd tk_m_seasonsOf 31 rfl) rfl (by decide) (x_topn 1 rfl ?_)
        refine x_iload 54 5 (ab_dd tk_m_seasonsOf 32 rfl) rfl rfl ?_
        refine x_ishl 55 (ab_dd tk_m_seasonsOf 33 rfl) rfl (x_topx (nI 1 <<< (nI k &&& 31)) rfl ?_)
        refine x_goto 59 (ab_dd tk_m_seasonsOf 34 rfl) (by decide) ?_
        refine x_ior 60 (ab_dd tk_m_seasonsOf 36 rfl) rfl (x_topn (mQ (fun s => decide (aFl (aSn a p s) (mTf S q) c (a 40) p)) k + 2 ^ k) (or_N (by omega) hqk) ?_)
        refine x_istore 62 [some (.ref 120), some (.int (nI q)), some (.int (nI p)), some (.int (a (28 + p))), some (.int (nI (mQ (fun s => decide (aFl (aSn a p s) (mTf S q) c (a 40) p)) k + 2 ^ k))), some (.int (nI k))] 4 (ab_dd tk_m_seasonsOf 37 rfl) rfl (by decide) rfl ?_
        refine xn_iinc 65 5 (fun y => [some (.ref 120), some (.int (nI q)), some (.int (nI p)), some (.int (a (28 + p))), some (.int (nI (mQ (fun s => decide (aFl (aSn a p s) (mTf S q) c (a 40) p)) k + 2 ^ k))), some (.int y)]) (k + 1) (ab_dd tk_m_seasonsOf 38 rfl) rfl (by decide) rfl (fun _ => rfl) (iinc_p 1) ?_
        refine x_goto 16 (ab_dd tk_m_seasonsOf 39 rfl) (by decide) ?_
        rw [show mQ (fun s => decide (aFl (aSn a p s) (mTf S q) c (a 40) p)) (k + 1) = mQ (fun s => decide (aFl (aSn a p s) (mTf S q) c (a 40) p)) k + 2 ^ k from by show mQ (fun s => decide (aFl (aSn a p s) (mTf S q) c (a 40) p)) k + (if decide _ = true then _ else 0) = _; rw [if_pos (by rw [decide_eq_true_iff]; exact h48)]] at hI
        exact hI _ um1 (fun i hi => by rw [uA1]; exact aSn_o hi) ((hE1.pI (by decide)).tr (uE1.mono (by decide)))
  refine x_enter [some (.ref 120), some (.int (nI q)), some (.int (nI p)), none, none, none] (by decide) (Nat.le_of_ble_eq_true rfl) rfl (fun v w' h => by obtain ⟨rfl, -⟩ := h; rfl) ?_
  refine x_aload_n 1 0 (ab_dd tk_m_seasonsOf 0 rfl) rfl rfl rfl ?_
  refine t_getP 4 121 (ab_dd tk_m_seasonsOf 1 rfl) rfl F_m_13 (by decide) (Nat.lt_of_lt_of_le (by decide) hm.1) (hm.2.1 0 (by decide)) rfl (hm.2.2 1 (by decide)) ?_
  refine x_bipush 6 28 (ab_dd tk_m_seasonsOf 2 rfl) rfl (by decide) (x_topn 28 rfl ?_)
  refine x_iload_n 7 2 (ab_dd tk_m_seasonsOf 3 rfl) rfl rfl rfl ?_
  refine x_iadd 8 (ab_dd tk_m_seasonsOf 4 rfl) rfl (x_topn (28 + p) (nI_add _ _) ?_)
  refine t_iald 9 (28 + p) (ab_dd tk_m_seasonsOf 5 rfl) rfl (by decide) (Nat.lt_of_lt_of_le (by decide) hm.1) (hm.2.1 1 (by decide)) rfl (by omega) (by decide) (x_topx (a (28 + p)) (congrFun hA _) ?_)
  refine x_istore_n 10 [some (.ref 120), some (.int (nI q)), some (.int (nI p)), some (.int ((a (28 + p)))), none, none] 3 (ab_dd tk_m_seasonsOf 6 rfl) rfl rfl (by decide) rfl ?_
  refine x_iconst 11 0 (ab_dd tk_m_seasonsOf 7 rfl) rfl (by decide) (x_topn 0 rfl ?_)
  refine x_istore 13 [some (.ref 120), some (.int (nI q)), some (.int (nI p)), some (.int ((a (28 + p)))), some (.int (nI 0)), none] 4 (ab_dd tk_m_seasonsOf 8 rfl) rfl (by decide) rfl ?_
  refine x_iconst 14 0 (ab_dd tk_m_seasonsOf 9 rfl) rfl (by decide) (x_topn 0 rfl ?_)
  refine x_istore 16 [some (.ref 120), some (.int (nI q)), some (.int (nI p)), some (.int ((a (28 + p)))), some (.int (nI 0)), some (.int (nI 0))] 5 (ab_dd tk_m_seasonsOf 10 rfl) rfl (by decide) rfl ?_
  exact loop 4 0 (by omega) S hm (fun i _ => congrFun hA i) sEq.rf
def tb_m_seasons : List (Nat × Instr × Nat) := [(0, .aload_n 0, 1), (1, .iconst 0, 1), (2, .putfield 1, 3), (5, .aload_n 0, 1), (6, .iload_n 1, 1), (7, .iload_n 2, 1), (8, .invokevirtual 424, 3), (11, .istore_n 3, 1), (12, .iload_n 3, 1), (13, .ifCond .eq 7, 3), (16, .iload_n 3, 1), (17, .goto 9, 3), (20, .aload_n 0, 1), (21, .iload_n 1, 1), (22, .iload_n 2, 1), (23, .invokevirtual 427, 3), (26, .ireturn, 1)]
theorem tk_m_seasons : ∀ q ∈ tb_m_seasons, decode M_m_seasons.2.1 q.1 = .ok q.2 := by decide +kernel
theorem c_m_seasons {G : ab_G} {S : ab_S} {a : Nat → Int32} (hm : mSh S) (hA : mA S = a) (ha : aOk a) (ht : mTr S) (t r : Int32) : ab_C G 7 M_m_seasons [.ref 120, .int t, .int r] (sw S) (pD S (some (.int (if (aNf S (aR a) t r) = 0 then (nI (aSo a (mTf S (cN t)) (mTc S (cN t)) (cN r))) else (aNf S (aR a) t r)))) (mA S)) := by
  refine x_enter [some (.ref 120), some (.int t), some (.int r), none] (by decide) (Nat.le_of_ble_eq_true rfl) rfl (fun v w' h => by obtain ⟨rfl, -⟩ := h; rfl) ?_
  have hR4 := ha.R.2
  refine x_aload_n 1 0 (ab_dd tk_m_seasons 0 rfl) rfl rfl rfl ?_
  refine x_iconst 2 0 (ab_dd tk_m_seasons 1 rfl) rfl (by decide) (x_topn 0 rfl ?_)
  refine t_putI 5 (ab_dd tk_m_seasons 2 rfl) rfl F_m_1 (by decide) (Nat.lt_of_lt_of_le (by decide) hm.1) (hm.2.1 0 (by decide)) rfl rfl rfl ?_
  refine x_aload_n 6 0 (ab_dd tk_m_seasons 3 rfl) rfl rfl rfl ?_
  refine x_iload_n 7 1 (ab_dd tk_m_seasons 4 rfl) rfl rfl rfl ?_
  refine x_iload_n 8 2 (ab_dd tk_m_seasons 5 rfl) rfl rfl rfl ?_
  refine t_callV 11 M_m_noFelt 2 2 [_, _] (ab_dd tk_m_seasons 6 rfl) rfl (by decide) K_m_noFelt V_m_noFelt.1 V_m_noFelt.2 L_m_424 rfl (Nat.le_of_ble_eq_true rfl) (by decide) (Nat.lt_of_lt_of_le (by decide) hm.1) (hm.2.1 0 (by decide)) rfl (c_m_noFelt (by exact hm) (by exact hA) ha (by exact ht) t r) (fun v1 w1 h1 => ?_)
  obtain ⟨rfl, rfl⟩ := h1
  refine x_topi (fun v1 ev1 => ?_)
  refine x_istore_n 12 [some (.ref 120), some (.int t), some (.int r), some (.int v1)] 3 (ab_dd tk_m_seasons 7 rfl) rfl rfl (by decide) rfl ?_
  refine x_iload_n 13 3 (ab_dd tk_m_seasons 8 rfl) rfl rfl rfl ?_
  refine x_if_eq 16 20 (ab_dd tk_m_seasons 9 rfl) rfl (by decide) (fun h13 => ?_) (fun h13 => ?_)
  · have h0 := aNf_0 (show aNf S (aR a) t r = 0 by rw [show aNf S (aR a) t r = v1 from ev1.symm]; exact h13)
    obtain ⟨q, hq, etq, et⟩ := in_get (n := 3) (by decide) h0.1.1
    obtain ⟨p, hp, erp, er⟩ := rid_get h0.1.2 hR4
    obtain ⟨c, ec, hc⟩ := ht q (by omega)
    have hcc : mTc S q = c := by show cN (sI S 143 q) = c; rw [ec, cN_nI (by omega)]
    rw [show some (Value.int t) = some (Value.int (nI q)) by rw [etq], show some (Value.int r) = some (Value.int (nI p)) by rw [erp]]
    refine x_aload_n 21 0 (ab_dd tk_m_seasons 12 rfl) rfl rfl rfl ?_
    refine x_iload_n 22 1 (ab_dd tk_m_seasons 13 rfl) rfl rfl rfl ?_
    refine x_iload_n 23 2 (ab_dd tk_m_seasons 14 rfl) rfl rfl rfl ?_
    refine t_callV 26 M_m_seasonsOf 6 2 [_, _] (ab_dd tk_m_seasons 15 rfl) rfl (by decide) K_m_seasonsOf V_m_seasonsOf.1 V_m_seasonsOf.2 L_m_427 rfl (Nat.le_of_ble_eq_true rfl) (by decide) (Nat.lt_of_lt_of_le (by decide) hm.1) (hm.2.1 0 (by decide)) rfl (c_m_seasonsOf (S := m0 S) (by exact hm) (by exact hA) ha q c p (by omega) (by exact ec) hc (by omega)) (fun v1 w1 h1 => ?_)
    obtain ⟨rfl, U2, rfl, um2, uA2, uE2⟩ := h1
    exact x_iret (ab_dd tk_m_seasons 16 rfl) ⟨rI (by rw [if_pos (by rw [show aNf S (aR a) t r = v1 from ev1.symm]; exact h13), et, er, hcc] <;> rfl), _, rfl, um2, uA2.trans hA.symm, (((sEq.rf (l := 121 :: qL)).pI (by decide)).tr (uE2.mono (by decide))), (fEq.r2 uE2 (by decide) (by exact (fEq.pI (fEq.rf (S := S)) (Or.inr (by decide)))))⟩
  · refine x_iload_n 17 3 (ab_dd tk_m_seasons 10 rfl) rfl rfl rfl ?_
    refine x_goto 26 (ab_dd tk_m_seasons 11 rfl) (by decide) ?_
    exact x_iret (ab_dd tk_m_seasons 16 rfl) ⟨rI (by rw [if_neg (by rw [show aNf S (aR a) t r = v1 from ev1.symm]; exact h13)]; exact ev1), _, rfl, hm, hA.trans hA.symm, ((sEq.rf (l := 121 :: qL)).pI (by decide)), (fEq.pI (fEq.rf (S := S)) (Or.inr (by decide)))⟩
def aMs (a : Nat → Int32) (f : Nat → Int64) (c p : Nat) : Nat := mQ (fun s => decide (aFl a f c (nI s) p)) 10
def tb_m_months : List (Nat × Instr × Nat) := [(0, .aload_n 0, 1), (1, .iconst 0, 1), (2, .putfield 1, 3), (5, .aload_n 0, 1), (6, .iload_n 1, 1), (7, .iload_n 2, 1), (8, .invokevirtual 424, 3), (11, .istore_n 3, 1), (12, .iload_n 3, 1), (13, .ifCond .eq 5, 3), (16, .iload_n 3, 1), (17, .ireturn, 1), (18, .iconst 0, 1), (19, .istore 4, 2), (21, .iconst 0, 1), (22, .istore 5, 2), (24, .iload 5, 2), (26, .bipush 10, 2), (28, .if_icmp .ge 33, 3), (31, .iload 4, 2), (33, .aload_n 0, 1), (34, .iload_n 1, 1), (35, .iload_n 2, 1), (36, .iload 5, 2), (38, .invokevirtual 420, 3), (41, .ifCond .eq 10, 3), (44, .iconst 1, 1), (45, .iload 5, 2), (47, .ishl, 1), (48, .goto 4, 3), (51, .iconst 0, 1), (52, .ior, 1), (53, .istore 4, 2), (55, .iinc 5 1, 3), (58, .goto (-34), 3), (61, .iload 4, 2), (63, .ireturn, 1)]
theorem tk_m_months : ∀ q ∈ tb_m_months, decode M_m_months.2.1 q.1 = .ok q.2 := by decide +kernel
theorem c_m_months {G : ab_G} {S : ab_S} {a : Nat → Int32} (hm : mSh S) (hA : mA S = a) (ha : aOk a) (ht : mTr S) (t r : Int32) : ab_C G 6 M_m_months [.ref 120, .int t, .int r] (sw S) (pQ S (some (.int (if (aNf S (aR a) t r) = 0 then (nI (aMs a (mTf S (cN t)) (mTc S (cN t)) (cN r))) else (aNf S (aR a) t r))))) := by
  have hR4 := ha.R.2
  have loop : ∀ (q c p : Nat) (v1 : Int32), q < 4 → sI S 143 q = nI c → c ≤ 40 → p < 4 → (nI (aMs a (mTf S q) c p) = if (aNf S (aR a) t r) = 0 then (nI (aMs a (mTf S (cN t)) (mTc S (cN t)) (cN r))) else (aNf S (aR a) t r)) → ∀ (m k : Nat), k + m = 10 → ∀ S1, mSh S1 → mA S1 = a → sEq qL S S1 → fEq S S1 → ab_Ex G 6 M_m_months 24 [some (.ref 120), some (.int (nI q)), some (.int (nI p)), some (.int v1), some (.int (nI (mQ (fun s => decide (aFl a (mTf S q) c (nI s) p)) k))), some (.int (nI k))] [] (sw S1) (pQ S (some (.int (if (aNf S (aR a) t r) = 0 then (nI (aMs a (mTf S (cN t)) (mTc S (cN t)) (cN r))) else (aNf S (aR a) t r))))) := by
    intro q c p v1 hq ec hc hp hans m
    induction m with
    | zero =>
      intro k hk S1 hm1 hA1 hE1 hF1
      obtain rfl : k = 10 := by omega
      refine x_iload 26 5 (ab_dd tk_m_months 16 rfl) rfl rfl ?_
      refine x_bipush 28 10 (ab_dd tk_m_months 17 rfl) rfl (by decide) (x_topn 10 rfl ?_)
      refine x_icmp_ge_t 61 (ab_dd tk_m_months 18 rfl) (by decide) ((nI_leI (a := 10) (b := 10) (by omega) (by omega)).mpr (show 10 ≤ 10 by omega)) ?_
      refine x_iload 63 4 (ab_dd tk_m_months 35 rfl) rfl rfl ?_
      exact x_iret (ab_dd tk_m_months 36 rfl) ⟨rI hans, _, rfl, hm1, hA1.trans hA.symm, hE1, hF1⟩
    | succ m ih =>
      intro k hk S1 hm1 hA1 hE1 hF1
      have hqk := mQ_lt (fun s => decide (aFl a (mTf S q) c (nI s) p)) k
      have hI := ih (k + 1) (by omega)
      have ecU : sI S1 143 q = nI c := by rw [hE1.2.2.1 143 (by decide)]; exact ec
      have ef : mTf S1 q = mTf S q := by
        funext j
        show sJ S1 144 (40 * q + j) = _
        rw [hE1.2.2.2.1 144 (by decide)]
      refine x_iload 26 5 (ab_dd tk_m_months 16 rfl) rfl rfl ?_
      refine x_bipush 28 10 (ab_dd tk_m_months 17 rfl) rfl (by decide) (x_topn 10 rfl ?_)
      refine x_icmp_ge_f 31 (ab_dd tk_m_months 18 rfl) rfl 61 (by decide) (fun z => absurd ((nI_leI (a := 10) (b := k) (by omega) (by omega)).mp z) (show ¬ (10 ≤ k) by omega)) ?_
      refine x_iload 33 4 (ab_dd tk_m_months 19 rfl) rfl rfl ?_
      refine x_aload_n 34 0 (ab_dd tk_m_months 20 rfl) rfl rfl rfl ?_
      refine x_iload_n 35 1 (ab_dd tk_m_months 21 rfl) rfl rfl rfl ?_
      refine x_iload_n 36 2 (ab_dd tk_m_months 22 rfl) rfl rfl rfl ?_
      refine x_iload 38 5 (ab_dd tk_m_months 23 rfl) rfl rfl ?_
      have hft := c_m_isFelt (G := G) (by exact hm1) hA1 ha q c p (nI k) hq ecU hc hp
      rw [ef] at hft
      refine t_callV 41 M_m_isFelt 5 3 [_, _, _] (ab_dd tk_m_months 24 rfl) rfl (by decide) K_m_isFelt V_m_isFelt.1 V_m_isFelt.2 L_m_420 rfl (Nat.le_of_ble_eq_true rfl) (by decide) (Nat.lt_of_lt_of_le (by decide) hm1.1) (hm1.2.1 0 (by decide)) rfl (hft) (fun v1 w1 h1 => ?_)
      obtain ⟨rfl, U1, rfl, um1, uA1, uE1⟩ := h1
      refine xb_if_eq 44 51 (ab_dd tk_m_months 25 rfl) rfl (by decide) (fun h41 => ?_) (fun h41 => ?_)
      · refine x_iconst 52 0 (ab_dd tk_m_months 30 rfl) rfl (by decide) (x_topn 0 rfl ?_)
        refine x_ior 53 (ab_dd tk_m_months 31 rfl) rfl (x_topn (mQ (fun s => decide (aFl a (mTf S q) c (nI s) p)) k) Int32.or_zero ?_)
        refine x_istore 55 [some (.ref 120), some (.int (nI q)), some (.int (nI p)), some (.int v1), some (.int (nI (mQ (fun s => decide (aFl a (mTf S q) c (nI s) p)) k))), some (.int (nI k))] 4 (ab_dd tk_m_months 32 rfl) rfl (by decide) rfl ?_
        refine xn_iinc 58 5 (fun y => [some (.ref 120), some (.int (nI q)), some (.int (nI p)), some (.int v1), some (.int (nI (mQ (fun s => decide (aFl a (mTf S q) c (nI s) p)) k))), some (.int y)]) (k + 1) (ab_dd tk_m_months 33 rfl) rfl (by decide) rfl (fun _ => rfl) (iinc_p 1) ?_
        refine x_goto 24 (ab_dd tk_m_months 34 rfl) (by decide) ?_
        rw [show mQ (fun s => decide (aFl a (mTf S q) c (nI s) p)) (k + 1) = mQ (fun s => decide (aFl a (mTf S q) c (nI s) p)) k from by show mQ (fun s => decide (aFl a (mTf S q) c (nI s) p)) k + (if decide _ = true then _ else 0) = _; rw [if_neg (by rw [decide_eq_true_iff]; exact h41), Nat.add_zero]] at hI
        exact hI _ um1 uA1 (hE1.tr (uE1.mono (by decide))) (fEq.r2 uE1 (by decide) (by exact hF1))
      · refine x_iconst 45 1 (ab_dd tk_m_months 26 rfl) rfl (by decide) (x_topn 1 rfl ?_)
        refine x_iload 47 5 (ab_dd tk_m_months 27 rfl) rfl rfl ?_
        refine x_ishl 48 (ab_dd tk_m_months 28 rfl) rfl (x_topx (nI 1 <<< (nI k &&& 31)) rfl ?_)
        refine x_goto 52 (ab_dd tk_m_months 29 rfl) (by decide) ?_
        refine x_ior 53 (ab_dd tk_m_months 31 rfl) rfl (x_topn (mQ (fun s => decide (aFl a (mTf S q) c (nI s) p)) k + 2 ^ k) (or_N (by omega) hqk) ?_)
        refine x_istore 55 [some (.ref 120), some (.int (nI q)), some (.int (nI p)), some (.int v1), some (.int (nI (mQ (fun s => decide (aFl a (mTf S q) c (nI s) p)) k + 2 ^ k))), some (.int (nI k))] 4 (ab_dd tk_m_months 32 rfl) rfl (by decide) rfl ?_
        refine xn_iinc 58 5 (fun y => [some (.ref 120), some (.int (nI q)), some (.int (nI p)), some (.int v1), some (.int (nI (mQ (fun s => decide (aFl a (mTf S q) c (nI s) p)) k + 2 ^ k))), some (.int y)]) (k + 1) (ab_dd tk_m_months 33 rfl) rfl (by decide) rfl (fun _ => rfl) (iinc_p 1) ?_
        refine x_goto 24 (ab_dd tk_m_months 34 rfl) (by decide) ?_
        rw [show mQ (fun s => decide (aFl a (mTf S q) c (nI s) p)) (k + 1) = mQ (fun s => decide (aFl a (mTf S q) c (nI s) p)) k + 2 ^ k from by show mQ (fun s => decide (aFl a (mTf S q) c (nI s) p)) k + (if decide _ = true then _ else 0) = _; rw [if_pos (by rw [decide_eq_true_iff]; exact h41)]] at hI
        exact hI _ um1 uA1 (hE1.tr (uE1.mono (by decide))) (fEq.r2 uE1 (by decide) (by exact hF1))
  refine x_enter [some (.ref 120), some (.int t), some (.int r), none, none, none] (by decide) (Nat.le_of_ble_eq_true rfl) rfl (fun v w' h => by obtain ⟨rfl, -⟩ := h; rfl) ?_
  refine x_aload_n 1 0 (ab_dd tk_m_months 0 rfl) rfl rfl rfl ?_
  refine x_iconst 2 0 (ab_dd tk_m_months 1 rfl) rfl (by decide) (x_topn 0 rfl ?_)
  refine t_putI 5 (ab_dd tk_m_months 2 rfl) rfl F_m_1 (by decide) (Nat.lt_of_lt_of_le (by decide) hm.1) (hm.2.1 0 (by decide)) rfl rfl rfl ?_
  refine x_aload_n 6 0 (ab_dd tk_m_months 3 rfl) rfl rfl rfl ?_
  refine x_iload_n 7 1 (ab_dd tk_m_months 4 rfl) rfl rfl rfl ?_
  refine x_iload_n 8 2 (ab_dd tk_m_months 5 rfl) rfl rfl rfl ?_
  refine t_callV 11 M_m_noFelt 2 2 [_, _] (ab_dd tk_m_months 6 rfl) rfl (by decide) K_m_noFelt V_m_noFelt.1 V_m_noFelt.2 L_m_424 rfl (Nat.le_of_ble_eq_true rfl) (by decide) (Nat.lt_of_lt_of_le (by decide) hm.1) (hm.2.1 0 (by decide)) rfl (c_m_noFelt (by exact hm) (by exact hA) ha (by exact ht) t r) (fun v1 w1 h1 => ?_)
  obtain ⟨rfl, rfl⟩ := h1
  refine x_topi (fun v1 ev1 => ?_)
  refine x_istore_n 12 [some (.ref 120), some (.int t), some (.int r), some (.int v1), none, none] 3 (ab_dd tk_m_months 7 rfl) rfl rfl (by decide) rfl ?_
  refine x_iload_n 13 3 (ab_dd tk_m_months 8 rfl) rfl rfl rfl ?_
  refine x_if_eq 16 18 (ab_dd tk_m_months 9 rfl) rfl (by decide) (fun h13 => ?_) (fun h13 => ?_)
  · have h0 := aNf_0 (show aNf S (aR a) t r = 0 by rw [show aNf S (aR a) t r = v1 from ev1.symm]; exact h13)
    obtain ⟨q, hq, etq, et⟩ := in_get (n := 3) (by decide) h0.1.1
    obtain ⟨p, hp, erp, er⟩ := rid_get h0.1.2 hR4
    obtain ⟨c, ec, hc⟩ := ht q (by omega)
    have hcc : mTc S q = c := by show cN (sI S 143 q) = c; rw [ec, cN_nI (by omega)]
    rw [show some (Value.int t) = some (Value.int (nI q)) by rw [etq], show some (Value.int r) = some (Value.int (nI p)) by rw [erp]]
    refine x_iconst 19 0 (ab_dd tk_m_months 12 rfl) rfl (by decide) (x_topn 0 rfl ?_)
    refine x_istore 21 [some (.ref 120), some (.int (nI q)), some (.int (nI p)), some (.int v1), some (.int (nI 0)), none] 4 (ab_dd tk_m_months 13 rfl) rfl (by decide) rfl ?_
    refine x_iconst 22 0 (ab_dd tk_m_months 14 rfl) rfl (by decide) (x_topn 0 rfl ?_)
    refine x_istore 24 [some (.ref 120), some (.int (nI q)), some (.int (nI p)), some (.int v1), some (.int (nI 0)), some (.int (nI 0))] 5 (ab_dd tk_m_months 15 rfl) rfl (by decide) rfl ?_
    exact loop q c p v1 (by omega) ec hc (by omega) (by rw [if_pos (by rw [show aNf S (aR a) t r = v1 from ev1.symm]; exact h13), et, er, hcc]) 10 0 (by omega) _ hm hA ((sEq.rf (l := qL)).pI (by decide)) (fEq.pI (fEq.rf (S := S)) (Or.inr (by decide)))
  · refine x_iload_n 17 3 (ab_dd tk_m_months 10 rfl) rfl rfl rfl ?_
    exact x_iret (ab_dd tk_m_months 11 rfl) ⟨rI (by rw [if_neg (by rw [show aNf S (aR a) t r = v1 from ev1.symm]; exact h13)]; exact ev1), _, rfl, hm, hA.trans hA.symm, ((sEq.rf (l := qL)).pI (by decide)), (fEq.pI (fEq.rf (S := S)) (Or.inr (by decide)))⟩
