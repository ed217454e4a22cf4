/-! ===== loops over the riders ===== -/
def sFirst (p : Nat → Bool) : Nat → Nat → Nat
  | 0, k => k
  | m + 1, k => if p k then k else sFirst p m (k + 1)
theorem sFirst_le (p : Nat → Bool) : ∀ m k, sFirst p m k ≤ k + m
  | 0, k => Nat.le_refl _
  | m + 1, k => by
    unfold sFirst
    split
    · omega
    · have := sFirst_le p m (k + 1); omega
theorem sFirst_yes (p : Nat → Bool) : ∀ m k, sFirst p m k < k + m → p (sFirst p m k) = true
  | 0, k, h => absurd h (by unfold sFirst; omega)
  | m + 1, k, h => by
    unfold sFirst at h ⊢
    split
    · assumption
    · rename_i hp
      rw [if_neg hp] at h
      exact sFirst_yes p m (k + 1) (by omega)
theorem sFirst_no (p : Nat → Bool) : ∀ m k j, k ≤ j → j < sFirst p m k → p j = false
  | 0, k, j, h1, h2 => absurd h2 (by unfold sFirst; omega)
  | m + 1, k, j, h1, h2 => by
    unfold sFirst at h2
    split at h2
    · omega
    · rename_i hp
      by_cases e : j = k
      · subst e
        exact Bool.eq_false_iff.mpr hp
      · exact sFirst_no p m (k + 1) j (by omega) h2
/-- who sits in a seat, of n riders; n if nobody does -/
def mSit (n c s : Nat) : Nat := sFirst (fun r => mSe c r == s) n 0
def mLe (c : Nat) : Nat → Nat
  | 0 => 4
  | n + 1 => if mWa c n < mLe c n then mWa c n else mLe c n
theorem mLe_le (c : Nat) : ∀ n, mLe c n ≤ 4
  | 0 => Nat.le_refl _
  | n + 1 => by
    unfold mLe
    have := mLe_le c n
    split <;> omega
def mSu (c : Nat) : Nat → Nat
  | 0 => 0
  | n + 1 => mSu c n + mWa c n
theorem mSu_le (c : Nat) : ∀ n, mSu c n ≤ 4 * n
  | 0 => Nat.le_refl _
  | n + 1 => by
    unfold mSu
    have := mSu_le c n
    have := mWa_lt c n
    omega
abbrev cN (x : Int32) : Nat := x.toNatClampNeg
def mSt (S : ab_S) (r : Nat) : Nat := cN (mA S (36 + r))
def mWm (S : ab_S) (r : Nat) : Nat := cN (mA S (32 + r))
def mSn (S : ab_S) (r : Nat) : Nat := cN (mA S (28 + r))
def mMo (S : ab_S) : Nat := cN (mA S 40)
/-- the numbers of the reference are small -/
def mV (S : ab_S) : Prop := mRo S ∧ (∀ r, r < 4 → (mA S (36 + r) = nI (mSt S r) ∧ mSt S r < 4) ∧ (mA S (32 + r) = nI (mWm S r) ∧ mWm S r < 5) ∧ (mA S (28 + r) = nI (mSn S r) ∧ mSn S r < 4)) ∧ mA S 40 = nI (mMo S) ∧ mMo S < 10
theorem mV.eq {l : List Nat} {S S1 : ab_S} (h : mV S) (hE : sEq l S S1) (hl : 121 ∉ l) : mV S1 ∧ mA S1 = mA S := by
  have e : mA S1 = mA S := hE.2.2.1 121 hl
  refine ⟨?_, e⟩
  unfold mV mRo mR mSt mWm mSn mMo at h ⊢
  rw [e]
  exact h
def mEn (S : ab_S) : Nat → Nat
  | 0 => 0
  | n + 1 => mEn S n + (625 * (mSt S n * 4 ^ n) + 5 ^ n * mWm S n)
theorem mEn_lt {S : ab_S} (h : mV S) : ∀ n, n ≤ 4 → mEn S n < 625 * 4 ^ n + 5 ^ n
  | 0, _ => by unfold mEn; decide
  | n + 1, hn => by
    have h1 := mEn_lt h n (by omega)
    have h2 := (h.2.1 n (by omega)).1.2
    have h3 := (h.2.1 n (by omega)).2.1.2
    unfold mEn
    have h4 : mSt S n * 4 ^ n ≤ 3 * 4 ^ n := Nat.mul_le_mul_right _ (by omega)
    have h5 : 5 ^ n * mWm S n ≤ 5 ^ n * 4 := Nat.mul_le_mul_left _ (by omega)
    rw [Nat.pow_succ, Nat.pow_succ]
    omega
theorem nI_ge_iff {a b : Nat} (ha : a < 2 ^ 31) (hb : b < 2 ^ 31) : (¬ nI b ≤ nI a) ↔ a < b := by rw [nI_leI hb ha]; omega
theorem mR_t {S : ab_S} (hv : mV S) {k : Nat} (h : mR S ≤ k) (hk : k < 2 ^ 31) : sI S 121 1 ≤ nI k := by
  rw [show sI S 121 1 = nI (mR S) from hv.1.1]; exact nI_le h hk
theorem mR_f {S : ab_S} (hv : mV S) {k : Nat} (h : k < mR S) : ¬ sI S 121 1 ≤ nI k := by
  have := hv.1.2
  rw [show sI S 121 1 = nI (mR S) from hv.1.1, nI_ge_iff (by omega) (by omega)]; exact h
def tb_m_sitting : List (Nat × Instr × Nat) := [(0, .iconst 0, 1), (1, .istore_n 3, 1), (2, .iload_n 3, 1), (3, .aload_n 0, 1), (4, .getfield 13, 3), (7, .iconst 1, 1), (8, .iaload, 1), (9, .if_icmp .ge 20, 3), (12, .iload_n 1, 1), (13, .iload_n 3, 1), (14, .invokestatic 231, 3), (17, .iload_n 2, 1), (18, .if_icmp .ne 5, 3), (21, .iload_n 3, 1), (22, .ireturn, 1), (23, .iinc 3 1, 3), (26, .goto (-24), 3), (29, .iconst (-1), 1), (30, .ireturn, 1)]
theorem tk_m_sitting : ∀ q ∈ tb_m_sitting, decode M_m_sitting.2.1 q.1 = .ok q.2 := by decide +kernel
theorem c_m_sitting {G : ab_G} {S : ab_S} (hm : mSh S) (hv : mV S) (c s : Nat) (hc : c < 160000) (hs : s < 100) : ab_C G 1 M_m_sitting [.ref 120, .int (nI c), .int (nI s)] (sw S) (fun v w' => v = some (.int (if mSit (mR S) c s < mR S then nI (mSit (mR S) c s) else -1)) ∧ w' = sw S) := by
  refine x_enter [some (.ref 120), some (.int (nI c)), some (.int (nI s)), none] (by decide) (Nat.le_of_ble_eq_true rfl) rfl (fun v w' h => by obtain ⟨rfl, rfl⟩ := h; rfl) ?_
  have hR4 := hv.1.2
  have loop : ∀ (m k : Nat), k + m = mR S → sFirst (fun r => mSe c r == s) m k = mSit (mR S) c s → ab_Ex G 1 M_m_sitting 2 [some (.ref 120), some (.int (nI c)), some (.int (nI s)), some (.int (nI k))] [] (sw S) (fun v w' => v = some (.int (if mSit (mR S) c s < mR S then nI (mSit (mR S) c s) else -1)) ∧ w' = sw S) := by
    intro m
    induction m with
    | zero =>
      intro k hk hf
      refine x_iload_n 3 3 (ab_dd tk_m_sitting 2 rfl) rfl rfl rfl ?_
      refine x_aload_n 4 0 (ab_dd tk_m_sitting 3 rfl) rfl rfl rfl ?_
      refine t_getP 7 121 (ab_dd tk_m_sitting 4 rfl) rfl F_m_13 (by decide) (Nat.lt_of_lt_of_le (by decide) hm.1) (hm.2.1 0 (by decide)) rfl (hm.2.2 1 (by decide)) ?_
      refine x_iconst 8 1 (ab_dd tk_m_sitting 5 rfl) rfl (by decide) ?_
      refine t_iald 9 1 (ab_dd tk_m_sitting 6 rfl) rfl (by decide) (Nat.lt_of_lt_of_le (by decide) hm.1) (hm.2.1 1 (by decide)) (by decide) (by decide) (by decide) ?_
      refine x_icmp_ge_t 29 (ab_dd tk_m_sitting 7 rfl) (by decide) (mR_t hv (by omega) (by omega)) ?_
      refine x_iconst 30 (-1) (ab_dd tk_m_sitting 17 rfl) rfl (by decide) ?_
      exact x_iret (ab_dd tk_m_sitting 18 rfl) (by
        unfold sFirst at hf
        rw [← hf]
        exact ⟨by rw [if_neg (by omega)], rfl⟩)
    | succ m ih =>
      intro k hk hf
      refine x_iload_n 3 3 (ab_dd tk_m_sitting 2 rfl) rfl rfl rfl ?_
      refine x_aload_n 4 0 (ab_dd tk_m_sitting 3 rfl) rfl rfl rfl ?_
      refine t_getP 7 121 (ab_dd tk_m_sitting 4 rfl) rfl F_m_13 (by decide) (Nat.lt_of_lt_of_le (by decide) hm.1) (hm.2.1 0 (by decide)) rfl (hm.2.2 1 (by decide)) ?_
      refine x_iconst 8 1 (ab_dd tk_m_sitting 5 rfl) rfl (by decide) ?_
      refine t_iald 9 1 (ab_dd tk_m_sitting 6 rfl) rfl (by decide) (Nat.lt_of_lt_of_le (by decide) hm.1) (hm.2.1 1 (by decide)) (by decide) (by decide) (by decide) ?_
      refine x_icmp_ge_f 12 (ab_dd tk_m_sitting 7 rfl) rfl 29 (by decide) (mR_f hv (by omega)) ?_
      refine x_iload_n 13 1 (ab_dd tk_m_sitting 8 rfl) rfl rfl rfl ?_
      refine x_iload_n 14 3 (ab_dd tk_m_sitting 9 rfl) rfl rfl rfl ?_
      refine x_callS 17 M_m_seatIn 0 2 [_, _] (ab_dd tk_m_sitting 10 rfl) rfl (by decide) K_m_seatIn T_m_seatIn L_m_231 rfl (Nat.le_of_ble_eq_true rfl) (w_seatIn _ c k hc (by omega)) (fun v1 w1 h1 => ?_)
      obtain ⟨rfl, rfl⟩ := h1
      refine x_iload_n 18 2 (ab_dd tk_m_sitting 11 rfl) rfl rfl rfl ?_
      refine x_icmp_ne 21 23 (ab_dd tk_m_sitting 12 rfl) rfl (by decide) (fun h18 => ?_) (fun h18 => ?_)
      · refine x_iincN 26 3 1 (fun y => [some (.ref 120), some (.int (nI c)), some (.int (nI s)), some (.int y)]) (ab_dd tk_m_sitting 15 rfl) rfl (by decide) rfl (by decide) (fun _ => rfl) (fun v1 ev1 => ?_)
        refine x_goto 2 (ab_dd tk_m_sitting 16 rfl) (by decide) ?_
        have hw : v1 = nI (k + 1) := by rw [ev1, nI_1]
        subst hw
        refine ih (k + 1) (by omega) ?_
        have hf2 := hf
        unfold sFirst at hf2
        rw [if_neg (by simp only [beq_iff_eq]; intro e; exact h18 (by rw [e]))] at hf2
        exact hf2
      · refine x_iload_n 22 3 (ab_dd tk_m_sitting 13 rfl) rfl rfl rfl ?_
        exact x_iret (ab_dd tk_m_sitting 14 rfl) (by
          have hq : mSe c k = s := (nI_eq (by have := mSe_lt c k; omega) (by omega)).mp h18
          have hf2 := hf
          unfold sFirst at hf2
          rw [if_pos (by simp only [beq_iff_eq]; exact hq)] at hf2
          rw [← hf2]
          exact ⟨by rw [if_pos (by omega)], rfl⟩)
  refine x_iconst 1 0 (ab_dd tk_m_sitting 0 rfl) rfl (by decide) ?_
  refine x_topi (fun v1 ev1 => ?_)
  refine x_istore_n 2 [some (.ref 120), some (.int (nI c)), some (.int (nI s)), some (.int v1)] 3 (ab_dd tk_m_sitting 1 rfl) rfl rfl (by decide) rfl ?_
  subst ev1
  exact loop (mR S) 0 (by omega) rfl
def tb_m_leastIn : List (Nat × Instr × Nat) := [(0, .iconst 4, 1), (1, .istore_n 2, 1), (2, .iconst 0, 1), (3, .istore_n 3, 1), (4, .iload_n 3, 1), (5, .aload_n 0, 1), (6, .getfield 13, 3), (9, .iconst 1, 1), (10, .iaload, 1), (11, .if_icmp .ge 28, 3), (14, .iload_n 1, 1), (15, .iload_n 3, 1), (16, .invokestatic 228, 3), (19, .iload_n 2, 1), (20, .if_icmp .ge 11, 3), (23, .iload_n 1, 1), (24, .iload_n 3, 1), (25, .invokestatic 228, 3), (28, .goto 4, 3), (31, .iload_n 2, 1), (32, .istore_n 2, 1), (33, .iinc 3 1, 3), (36, .goto (-32), 3), (39, .iload_n 2, 1), (40, .ireturn, 1)]
theorem tk_m_leastIn : ∀ q ∈ tb_m_leastIn, decode M_m_leastIn.2.1 q.1 = .ok q.2 := by decide +kernel
theorem c_m_leastIn {G : ab_G} {S : ab_S} (hm : mSh S) (hv : mV S) (c : Nat) (hc : c < 160000) : ab_C G 2 M_m_leastIn [.ref 120, .int (nI c)] (sw S) (fun v w' => v = some (.int (nI (mLe c (mR S)))) ∧ w' = sw S) := by
  refine x_enter [some (.ref 120), some (.int (nI c)), none, none] (by decide) (Nat.le_of_ble_eq_true rfl) rfl (fun v w' h => by obtain ⟨rfl, rfl⟩ := h; rfl) ?_
  have hR4 := hv.1.2
  have loop : ∀ (m k : Nat), k + m = mR S → ab_Ex G 2 M_m_leastIn 4 [some (.ref 120), some (.int (nI c)), some (.int (nI (mLe c k))), some (.int (nI k))] [] (sw S) (fun v w' => v = some (.int (nI (mLe c (mR S)))) ∧ w' = sw S) := by
    intro m
    induction m with
    | zero =>
      intro k hk
      refine x_iload_n 5 3 (ab_dd tk_m_leastIn 4 rfl) rfl rfl rfl ?_
      refine x_aload_n 6 0 (ab_dd tk_m_leastIn 5 rfl) rfl rfl rfl ?_
      refine t_getP 9 121 (ab_dd tk_m_leastIn 6 rfl) rfl F_m_13 (by decide) (Nat.lt_of_lt_of_le (by decide) hm.1) (hm.2.1 0 (by decide)) rfl (hm.2.2 1 (by decide)) ?_
      refine x_iconst 10 1 (ab_dd tk_m_leastIn 7 rfl) rfl (by decide) ?_
      refine t_iald 11 1 (ab_dd tk_m_leastIn 8 rfl) rfl (by decide) (Nat.lt_of_lt_of_le (by decide) hm.1) (hm.2.1 1 (by decide)) (by decide) (by decide) (by decide) ?_
      refine x_icmp_ge_t 39 (ab_dd tk_m_leastIn 9 rfl) (by decide) (mR_t hv (by omega) (by omega)) ?_
      refine x_iload_n 40 2 (ab_dd tk_m_leastIn 23 rfl) rfl rfl rfl ?_
      exact x_iret (ab_dd tk_m_leastIn 24 rfl) ⟨by rw [show k = mR S by omega], rfl⟩
    | succ m ih =>
      intro k hk
      refine x_iload_n 5 3 (ab_dd tk_m_leastIn 4 rfl) rfl rfl rfl ?_
      refine x_aload_n 6 0 (ab_dd tk_m_leastIn 5 rfl) rfl rfl rfl ?_
      refine t_getP 9 121 (ab_dd tk_m_leastIn 6 rfl) rfl F_m_13 (by decide) (Nat.lt_of_lt_of_le (by decide) hm.1) (hm.2.1 0 (by decide)) rfl (hm.2.2 1 (by decide)) ?_
      refine x_iconst 10 1 (ab_dd tk_m_leastIn 7 rfl) rfl (by decide) ?_
      refine t_iald 11 1 (ab_dd tk_m_leastIn 8 rfl) rfl (by decide) (Nat.lt_of_lt_of_le (by decide) hm.1) (hm.2.1 1 (by decide)) (by decide) (by decide) (by decide) ?_
      refine x_icmp_ge_f 14 (ab_dd tk_m_leastIn 9 rfl) rfl 39 (by decide) (mR_f hv (by omega)) ?_
      refine x_iload_n 15 1 (ab_dd tk_m_leastIn 10 rfl) rfl rfl rfl ?_
      refine x_iload_n 16 3 (ab_dd tk_m_leastIn 11 rfl) rfl rfl rfl ?_
      refine x_callS 19 M_m_warmthIn 1 2 [_, _] (ab_dd tk_m_leastIn 12 rfl) rfl (by decide) K_m_warmthIn T_m_warmthIn L_m_228 rfl (Nat.le_of_ble_eq_true rfl) (w_warmthIn _ c k hc (by omega)) (fun v1 w1 h1 => ?_)
      obtain ⟨rfl, rfl⟩ := h1
      refine x_iload_n 20 2 (ab_dd tk_m_leastIn 13 rfl) rfl rfl rfl ?_
      refine x_icmp_ge 23 31 (ab_dd tk_m_leastIn 14 rfl) rfl (by decide) (fun h20 => ?_) (fun h20 => ?_)
      · refine x_iload_n 32 2 (ab_dd tk_m_leastIn 19 rfl) rfl rfl rfl ?_
        refine x_topi (fun v1 ev1 => ?_)
        refine x_istore_n 33 [some (.ref 120), some (.int (nI c)), some (.int v1), some (.int (nI k))] 2 (ab_dd tk_m_leastIn 20 rfl) rfl rfl (by decide) rfl ?_
        refine x_iincN 36 3 1 (fun y => [some (.ref 120), some (.int (nI c)), some (.int v1), some (.int y)]) (ab_dd tk_m_leastIn 21 rfl) rfl (by decide) rfl (by decide) (fun _ => rfl) (fun v2 ev2 => ?_)
        refine x_goto 4 (ab_dd tk_m_leastIn 22 rfl) (by decide) ?_
        have hw0 : v1 = nI (mLe c (k + 1)) := by
          rw [ev1]
          show _ = nI (if mWa c k < mLe c k then mWa c k else mLe c k)
          rw [if_neg (by have := mLe_le c k; have := mWa_lt c k; rw [nI_leI (by omega) (by omega)] at h20; omega)]
        subst hw0
        have hw : v2 = nI (k + 1) := by rw [ev2, nI_1]
        subst hw
        exact ih (k + 1) (by omega)
      · refine x_iload_n 24 1 (ab_dd tk_m_leastIn 15 rfl) rfl rfl rfl ?_
        refine x_iload_n 25 3 (ab_dd tk_m_leastIn 16 rfl) rfl rfl rfl ?_
        refine x_callS 28 M_m_warmthIn 1 2 [_, _] (ab_dd tk_m_leastIn 17 rfl) rfl (by decide) K_m_warmthIn T_m_warmthIn L_m_228 rfl (Nat.le_of_ble_eq_true rfl) (w_warmthIn _ c k hc (by omega)) (fun v1 w1 h1 => ?_)
        obtain ⟨rfl, rfl⟩ := h1
        refine x_goto 32 (ab_dd tk_m_leastIn 18 rfl) (by decide) ?_
        refine x_topi (fun v3 ev3 => ?_)
        refine x_istore_n 33 [some (.ref 120), some (.int (nI c)), some (.int v3), some (.int (nI k))] 2 (ab_dd tk_m_leastIn 20 rfl) rfl rfl (by decide) rfl ?_
        refine x_iincN 36 3 1 (fun y => [some (.ref 120), some (.int (nI c)), some (.int v3), some (.int y)]) (ab_dd tk_m_leastIn 21 rfl) rfl (by decide) rfl (by decide) (fun _ => rfl) (fun v4 ev4 => ?_)
        refine x_goto 4 (ab_dd tk_m_leastIn 22 rfl) (by decide) ?_
        have hw0 : v3 = nI (mLe c (k + 1)) := by
          rw [ev3]
          show _ = nI (if mWa c k < mLe c k then mWa c k else mLe c k)
          rw [if_pos (by have := mLe_le c k; have := mWa_lt c k; rw [nI_leI (by omega) (by omega)] at h20; omega)]
        subst hw0
        have hw : v4 = nI (k + 1) := by rw [ev4, nI_1]
        subst hw
        exact ih (k + 1) (by omega)
  refine x_iconst 1 4 (ab_dd tk_m_leastIn 0 rfl) rfl (by decide) ?_
  refine x_topi (fun v1 ev1 => ?_)
  refine x_istore_n 2 [some (.ref 120), some (.int (nI c)), some (.int v1), none] 2 (ab_dd tk_m_leastIn 1 rfl) rfl rfl (by decide) rfl ?_
  refine x_iconst 3 0 (ab_dd tk_m_leastIn 2 rfl) rfl (by decide) ?_
  refine x_topi (fun v2 ev2 => ?_)
  refine x_istore_n 4 [some (.ref 120), some (.int (nI c)), some (.int v1), some (.int v2)] 3 (ab_dd tk_m_leastIn 3 rfl) rfl rfl (by decide) rfl ?_
  subst ev1; subst ev2
  exact loop (mR S) 0 (by omega)
def tb_m_sumIn : List (Nat × Instr × Nat) := [(0, .iconst 0, 1), (1, .istore_n 2, 1), (2, .iconst 0, 1), (3, .istore_n 3, 1), (4, .iload_n 3, 1), (5, .aload_n 0, 1), (6, .getfield 13, 3), (9, .iconst 1, 1), (10, .iaload, 1), (11, .if_icmp .ge 17, 3), (14, .iload_n 2, 1), (15, .iload_n 1, 1), (16, .iload_n 3, 1), (17, .invokestatic 228, 3), (20, .iadd, 1), (21, .istore_n 2, 1), (22, .iinc 3 1, 3), (25, .goto (-21), 3), (28, .iload_n 2, 1), (29, .ireturn, 1)]
theorem tk_m_sumIn : ∀ q ∈ tb_m_sumIn, decode M_m_sumIn.2.1 q.1 = .ok q.2 := by decide +kernel
theorem c_m_sumIn {G : ab_G} {S : ab_S} (hm : mSh S) (hv : mV S) (c : Nat) (hc : c < 160000) : ab_C G 2 M_m_sumIn [.ref 120, .int (nI c)] (sw S) (fun v w' => v = some (.int (nI (mSu c (mR S)))) ∧ w' = sw S) := by
  refine x_enter [some (.ref 120), some (.int (nI c)), none, none] (by decide) (Nat.le_of_ble_eq_true rfl) rfl (fun v w' h => by obtain ⟨rfl, rfl⟩ := h; rfl) ?_
  have hR4 := hv.1.2
  have loop : ∀ (m k : Nat), k + m = mR S → ab_Ex G 2 M_m_sumIn 4 [some (.ref 120), some (.int (nI c)), some (.int (nI (mSu c k))), some (.int (nI k))] [] (sw S) (fun v w' => v = some (.int (nI (mSu c (mR S)))) ∧ w' = sw S) := by
    intro m
    induction m with
    | zero =>
      intro k hk
      refine x_iload_n 5 3 (ab_dd tk_m_sumIn 4 rfl) rfl rfl rfl ?_
      refine x_aload_n 6 0 (ab_dd tk_m_sumIn 5 rfl) rfl rfl rfl ?_
      refine t_getP 9 121 (ab_dd tk_m_sumIn 6 rfl) rfl F_m_13 (by decide) (Nat.lt_of_lt_of_le (by decide) hm.1) (hm.2.1 0 (by decide)) rfl (hm.2.2 1 (by decide)) ?_
      refine x_iconst 10 1 (ab_dd tk_m_sumIn 7 rfl) rfl (by decide) ?_
      refine t_iald 11 1 (ab_dd tk_m_sumIn 8 rfl) rfl (by decide) (Nat.lt_of_lt_of_le (by decide) hm.1) (hm.2.1 1 (by decide)) (by decide) (by decide) (by decide) ?_
      refine x_icmp_ge_t 28 (ab_dd tk_m_sumIn 9 rfl) (by decide) (mR_t hv (by omega) (by omega)) ?_
      refine x_iload_n 29 2 (ab_dd tk_m_sumIn 18 rfl) rfl rfl rfl ?_
      exact x_iret (ab_dd tk_m_sumIn 19 rfl) ⟨by rw [show k = mR S by omega], rfl⟩
    | succ m ih =>
      intro k hk
      refine x_iload_n 5 3 (ab_dd tk_m_sumIn 4 rfl) rfl rfl rfl ?_
      refine x_aload_n 6 0 (ab_dd tk_m_sumIn 5 rfl) rfl rfl rfl ?_
      refine t_getP 9 121 (ab_dd tk_m_sumIn 6 rfl) rfl F_m_13 (by decide) (Nat.lt_of_lt_of_le (by decide) hm.1) (hm.2.1 0 (by decide)) rfl (hm.2.2 1 (by decide)) ?_
      refine x_iconst 10 1 (ab_dd tk_m_sumIn 7 rfl) rfl (by decide) ?_
      refine t_iald 11 1 (ab_dd tk_m_sumIn 8 rfl) rfl (by decide) (Nat.lt_of_lt_of_le (by decide) hm.1) (hm.2.1 1 (by decide)) (by decide) (by decide) (by decide) ?_
      refine x_icmp_ge_f 14 (ab_dd tk_m_sumIn 9 rfl) rfl 28 (by decide) (mR_f hv (by omega)) ?_
      refine x_iload_n 15 2 (ab_dd tk_m_sumIn 10 rfl) rfl rfl rfl ?_
      refine x_iload_n 16 1 (ab_dd tk_m_sumIn 11 rfl) rfl rfl rfl ?_
      refine x_iload_n 17 3 (ab_dd tk_m_sumIn 12 rfl) rfl rfl rfl ?_
      refine x_callS 20 M_m_warmthIn 1 2 [_, _] (ab_dd tk_m_sumIn 13 rfl) rfl (by decide) K_m_warmthIn T_m_warmthIn L_m_228 rfl (Nat.le_of_ble_eq_true rfl) (w_warmthIn _ c k hc (by omega)) (fun v1 w1 h1 => ?_)
      obtain ⟨rfl, rfl⟩ := h1
      refine x_iadd 21 (ab_dd tk_m_sumIn 14 rfl) rfl ?_
      refine x_topi (fun v1 ev1 => ?_)
      refine x_istore_n 22 [some (.ref 120), some (.int (nI c)), some (.int v1), some (.int (nI k))] 2 (ab_dd tk_m_sumIn 15 rfl) rfl rfl (by decide) rfl ?_
      refine x_iincN 25 3 1 (fun y => [some (.ref 120), some (.int (nI c)), some (.int v1), some (.int y)]) (ab_dd tk_m_sumIn 16 rfl) rfl (by decide) rfl (by decide) (fun _ => rfl) (fun v2 ev2 => ?_)
      refine x_goto 4 (ab_dd tk_m_sumIn 17 rfl) (by decide) ?_
      have hw0 : v1 = nI (mSu c (k + 1)) := by
        rw [ev1, nI_add]; rfl
      subst hw0
      have hw : v2 = nI (k + 1) := by rw [ev2, nI_1]
      subst hw
      exact ih (k + 1) (by omega)
  refine x_iconst 1 0 (ab_dd tk_m_sumIn 0 rfl) rfl (by decide) ?_
  refine x_topi (fun v1 ev1 => ?_)
  refine x_istore_n 2 [some (.ref 120), some (.int (nI c)), some (.int v1), none] 2 (ab_dd tk_m_sumIn 1 rfl) rfl rfl (by decide) rfl ?_
  refine x_iconst 3 0 (ab_dd tk_m_sumIn 2 rfl) rfl (by decide) ?_
  refine x_topi (fun v2 ev2 => ?_)
  refine x_istore_n 4 [some (.ref 120), some (.int (nI c)), some (.int v1), some (.int v2)] 3 (ab_dd tk_m_sumIn 3 rfl) rfl rfl (by decide) rfl ?_
  subst ev1; subst ev2
  exact loop (mR S) 0 (by omega)
theorem sh_N {x : Nat} (hx : x < 1000) : ∀ r, r < 4 → nI x <<< ((2 * nI r) &&& 31) = nI (x * 4 ^ r) := by
  refine r4 ?_ ?_ ?_ ?_
  · exact pk_shlN _ 0 (by decide) (by omega)
  · exact pk_shlN _ 2 (by decide) (by omega)
  · exact pk_shlN _ 4 (by decide) (by omega)
  · exact pk_shlN _ 6 (by decide) (by omega)
def tb_m_standNow : List (Nat × Instr × Nat) := [(0, .iconst 0, 1), (1, .istore_n 1, 1), (2, .iconst 0, 1), (3, .istore_n 2, 1), (4, .iload_n 2, 1), (5, .aload_n 0, 1), (6, .getfield 13, 3), (9, .iconst 1, 1), (10, .iaload, 1), (11, .if_icmp .ge 44, 3), (14, .iload_n 1, 1), (15, .sipush 625, 3), (18, .aload_n 0, 1), (19, .getfield 13, 3), (22, .bipush 36, 2), (24, .iload_n 2, 1), (25, .iadd, 1), (26, .iaload, 1), (27, .iconst 2, 1), (28, .iload_n 2, 1), (29, .imul, 1), (30, .ishl, 1), (31, .imul, 1), (32, .iload_n 2, 1), (33, .invokestatic 225, 3), (36, .aload_n 0, 1), (37, .getfield 13, 3), (40, .bipush 32, 2), (42, .iload_n 2, 1), (43, .iadd, 1), (44, .iaload, 1), (45, .imul, 1), (46, .iadd, 1), (47, .iadd, 1), (48, .istore_n 1, 1), (49, .iinc 2 1, 3), (52, .goto (-48), 3), (55, .iload_n 1, 1), (56, .ireturn, 1)]
theorem tk_m_standNow : ∀ q ∈ tb_m_standNow, decode M_m_standNow.2.1 q.1 = .ok q.2 := by decide +kernel
theorem c_m_standNow {G : ab_G} {S : ab_S} (hm : mSh S) (hv : mV S)  : ab_C G 1 M_m_standNow [.ref 120] (sw S) (fun v w' => v = some (.int (nI (mEn S (mR S)))) ∧ w' = sw S) := by
  refine x_enter [some (.ref 120), none, none] (by decide) (Nat.le_of_ble_eq_true rfl) rfl (fun v w' h => by obtain ⟨rfl, rfl⟩ := h; rfl) ?_
  have hR4 := hv.1.2
  have loop : ∀ (m k : Nat), k + m = mR S → ab_Ex G 1 M_m_standNow 4 [some (.ref 120), some (.int (nI (mEn S k))), some (.int (nI k))] [] (sw S) (fun v w' => v = some (.int (nI (mEn S (mR S)))) ∧ w' = sw S) := by
    intro m
    induction m with
    | zero =>
      intro k hk
      refine x_iload_n 5 2 (ab_dd tk_m_standNow 4 rfl) rfl rfl rfl ?_
      refine x_aload_n 6 0 (ab_dd tk_m_standNow 5 rfl) rfl rfl rfl ?_
      refine t_getP 9 121 (ab_dd tk_m_standNow 6 rfl) rfl F_m_13 (by decide) (Nat.lt_of_lt_of_le (by decide) hm.1) (hm.2.1 0 (by decide)) rfl (hm.2.2 1 (by decide)) ?_
      refine x_iconst 10 1 (ab_dd tk_m_standNow 7 rfl) rfl (by decide) ?_
      refine t_iald 11 1 (ab_dd tk_m_standNow 8 rfl) rfl (by decide) (Nat.lt_of_lt_of_le (by decide) hm.1) (hm.2.1 1 (by decide)) (by decide) (by decide) (by decide) ?_
      refine x_icmp_ge_t 55 (ab_dd tk_m_standNow 9 rfl) (by decide) (mR_t hv (by omega) (by omega)) ?_
      refine x_iload_n 56 1 (ab_dd tk_m_standNow 37 rfl) rfl rfl rfl ?_
      exact x_iret (ab_dd tk_m_standNow 38 rfl) ⟨by rw [show k = mR S by omega], rfl⟩
    | succ m ih =>
      intro k hk
      refine x_iload_n 5 2 (ab_dd tk_m_standNow 4 rfl) rfl rfl rfl ?_
      refine x_aload_n 6 0 (ab_dd tk_m_standNow 5 rfl) rfl rfl rfl ?_
      refine t_getP 9 121 (ab_dd tk_m_standNow 6 rfl) rfl F_m_13 (by decide) (Nat.lt_of_lt_of_le (by decide) hm.1) (hm.2.1 0 (by decide)) rfl (hm.2.2 1 (by decide)) ?_
      refine x_iconst 10 1 (ab_dd tk_m_standNow 7 rfl) rfl (by decide) ?_
      refine t_iald 11 1 (ab_dd tk_m_standNow 8 rfl) rfl (by decide) (Nat.lt_of_lt_of_le (by decide) hm.1) (hm.2.1 1 (by decide)) (by decide) (by decide) (by decide) ?_
      refine x_icmp_ge_f 14 (ab_dd tk_m_standNow 9 rfl) rfl 55 (by decide) (mR_f hv (by omega)) ?_
      refine x_iload_n 15 1 (ab_dd tk_m_standNow 10 rfl) rfl rfl rfl ?_
      refine x_sipush 18 625 (ab_dd tk_m_standNow 11 rfl) rfl (by decide) ?_
      refine x_aload_n 19 0 (ab_dd tk_m_standNow 12 rfl) rfl rfl rfl ?_
      refine t_getP 22 121 (ab_dd tk_m_standNow 13 rfl) rfl F_m_13 (by decide) (Nat.lt_of_lt_of_le (by decide) hm.1) (hm.2.1 0 (by decide)) rfl (hm.2.2 1 (by decide)) ?_
      refine x_bipush 24 36 (ab_dd tk_m_standNow 14 rfl) rfl (by decide) ?_
      refine x_iload_n 25 2 (ab_dd tk_m_standNow 15 rfl) rfl rfl rfl ?_
      refine x_iadd 26 (ab_dd tk_m_standNow 16 rfl) rfl ?_
      refine t_iald 27 (36 + k) (ab_dd tk_m_standNow 17 rfl) rfl (by decide) (Nat.lt_of_lt_of_le (by decide) hm.1) (hm.2.1 1 (by decide)) (by rw [show (36 : Int32) = nI 36 from rfl, nI_add]) (by omega) (by decide) ?_
      refine x_iconst 28 2 (ab_dd tk_m_standNow 18 rfl) rfl (by decide) ?_
      refine x_iload_n 29 2 (ab_dd tk_m_standNow 19 rfl) rfl rfl rfl ?_
      refine x_imul 30 (ab_dd tk_m_standNow 20 rfl) rfl ?_
      refine x_ishl 31 (ab_dd tk_m_standNow 21 rfl) rfl ?_
      refine x_imul 32 (ab_dd tk_m_standNow 22 rfl) rfl ?_
      refine x_iload_n 33 2 (ab_dd tk_m_standNow 23 rfl) rfl rfl rfl ?_
      refine x_callS 36 M_m_placeOf 0 1 [_] (ab_dd tk_m_standNow 24 rfl) rfl (by decide) K_m_placeOf T_m_placeOf L_m_225 rfl (Nat.le_of_ble_eq_true rfl) (w_placeOf _ k (by omega)) (fun v1 w1 h1 => ?_)
      obtain ⟨rfl, rfl⟩ := h1
      refine x_aload_n 37 0 (ab_dd tk_m_standNow 25 rfl) rfl rfl rfl ?_
      refine t_getP 40 121 (ab_dd tk_m_standNow 26 rfl) rfl F_m_13 (by decide) (Nat.lt_of_lt_of_le (by decide) hm.1) (hm.2.1 0 (by decide)) rfl (hm.2.2 1 (by decide)) ?_
      refine x_bipush 42 32 (ab_dd tk_m_standNow 27 rfl) rfl (by decide) ?_
      refine x_iload_n 43 2 (ab_dd tk_m_standNow 28 rfl) rfl rfl rfl ?_
      refine x_iadd 44 (ab_dd tk_m_standNow 29 rfl) rfl ?_
      refine t_iald 45 (32 + k) (ab_dd tk_m_standNow 30 rfl) rfl (by decide) (Nat.lt_of_lt_of_le (by decide) hm.1) (hm.2.1 1 (by decide)) (by rw [show (32 : Int32) = nI 32 from rfl, nI_add]) (by omega) (by decide) ?_
      refine x_imul 46 (ab_dd tk_m_standNow 31 rfl) rfl ?_
      refine x_iadd 47 (ab_dd tk_m_standNow 32 rfl) rfl ?_
      refine x_iadd 48 (ab_dd tk_m_standNow 33 rfl) rfl ?_
      refine x_topi (fun v1 ev1 => ?_)
      refine x_istore_n 49 [some (.ref 120), some (.int v1), some (.int (nI k))] 1 (ab_dd tk_m_standNow 34 rfl) rfl rfl (by decide) rfl ?_
      refine x_iincN 52 2 1 (fun y => [some (.ref 120), some (.int v1), some (.int y)]) (ab_dd tk_m_standNow 35 rfl) rfl (by decide) rfl (by decide) (fun _ => rfl) (fun v2 ev2 => ?_)
      refine x_goto 4 (ab_dd tk_m_standNow 36 rfl) (by decide) ?_
      have hw0 : v1 = nI (mEn S (k + 1)) := by
        have h1 := hv.2.1 k (by omega)
        rw [ev1, show sI S 121 (36 + k) = nI (mSt S k) from h1.1.1, show sI S 121 (32 + k) = nI (mWm S k) from h1.2.1.1, sh_N (by omega) k (by omega), show (625 : Int32) = nI 625 from rfl, pk_mul, pk_mul, nI_add, nI_add]; rfl
      subst hw0
      have hw : v2 = nI (k + 1) := by rw [ev2, nI_1]
      subst hw
      exact ih (k + 1) (by omega)
  refine x_iconst 1 0 (ab_dd tk_m_standNow 0 rfl) rfl (by decide) ?_
  refine x_topi (fun v1 ev1 => ?_)
  refine x_istore_n 2 [some (.ref 120), some (.int v1), none] 1 (ab_dd tk_m_standNow 1 rfl) rfl rfl (by decide) rfl ?_
  refine x_iconst 3 0 (ab_dd tk_m_standNow 2 rfl) rfl (by decide) ?_
  refine x_topi (fun v2 ev2 => ?_)
  refine x_istore_n 4 [some (.ref 120), some (.int v1), some (.int v2)] 2 (ab_dd tk_m_standNow 3 rfl) rfl rfl (by decide) rfl ?_
  subst ev1; subst ev2
  exact loop (mR S) 0 (by omega)
