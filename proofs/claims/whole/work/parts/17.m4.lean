/-! ===== loops over the riders ===== -/
def sFirst (p : Nat → Bool) : Nat → Nat → Nat
  | 0, k => k
  | m + 1, k => if p k then k else sFirst p m (k + 1)
theorem sFirst_le (p : Nat → Bool) : ∀ m k, sFirst p m k ≤ k + m
  | 0, k => Nat.le_refl _
  | m + 1, k => by
    unfold sFirst
    split
    · omega
    · have := sFirst_le p m (k + 1); omega
theorem sFirst_yes (p : Nat → Bool) : ∀ m k, sFirst p m k < k + m → p (sFirst p m k) = true
  | 0, k, h => absurd h (by unfold sFirst; omega)
  | m + 1, k, h => by
    unfold sFirst at h ⊢
    split
    · assumption
    · rename_i hp
      rw [if_neg hp] at h
      exact sFirst_yes p m (k + 1) (by omega)
theorem sFirst_no (p : Nat → Bool) : ∀ m k j, k ≤ j → j < sFirst p m k → p j = false
  | 0, k, j, h1, h2 => absurd h2 (by unfold sFirst; omega)
  | m + 1, k, j, h1, h2 => by
    unfold sFirst at h2
    split at h2
    · omega
    · rename_i hp
      by_cases e : j = k
      · subst e
        exact Bool.eq_false_iff.mpr hp
      · exact sFirst_no p m (k + 1) j (by omega) h2
/-- who sits in a seat, of n riders; n if nobody does -/
def mSit (n c s : Nat) : Nat := sFirst (fun r => mSe c r == s) n 0
def mLe (c : Nat) : Nat → Nat
  | 0 => 4
  | n + 1 => if mWa c n < mLe c n then mWa c n else mLe c n
theorem mLe_le (c : Nat) : ∀ n, mLe c n ≤ 4
  | 0 => Nat.le_refl _
  | n + 1 => by
    unfold mLe
    have := mLe_le c n
    split <;> omega
def mSu (c : Nat) : Nat → Nat
  | 0 => 0
  | n + 1 => mSu c n + mWa c n
theorem mSu_le (c : Nat) : ∀ n, mSu c n ≤ 4 * n
  | 0 => Nat.le_refl _
  | n + 1 => by
    unfold mSu
    have := mSu_le c n
    have := mWa_lt c n
    omega
abbrev cN (x : Int32) : Nat := x.toNatClampNeg
def mSt (S : ab_S) (r : Nat) : Nat := cN (mA S (36 + r))
def mWm (S : ab_S) (r : Nat) : Nat := cN (mA S (32 + r))
def mSn (S : ab_S) (r : Nat) : Nat := cN (mA S (28 + r))
def mMo (S : ab_S) : Nat := cN (mA S 40)
/-- the numbers of the reference are small -/
def mV (S : ab_S) : Prop := mRo S ∧ (∀ r, r < 4 → (mA S (36 + r) = nI (mSt S r) ∧ mSt S r < 4) ∧ (mA S (32 + r) = nI (mWm S r) ∧ mWm S r < 5) ∧ (mA S (28 + r) = nI (mSn S r) ∧ mSn S r < 4)) ∧ mA S 40 = nI (mMo S) ∧ mMo S < 10
theorem mV.eq {l : List Nat} {S S1 : ab_S} (h : mV S) (hE : sEq l S S1) (hl : 121 ∉ l) : mV S1 ∧ mA S1 = mA S := by
  have e : mA S1 = mA S := hE.2.2.1 121 hl
  refine ⟨?_, e⟩
  unfold mV mRo mR mSt mWm mSn mMo at h ⊢
  rw [e]
  exact h
def mEn (S : ab_S) : Nat → Nat
  | 0 => 0
  | n + 1 => mEn S n + (625 * (mSt S n * 4 ^ n) + 5 ^ n * mWm S n)
theorem mEn_lt {S : ab_S} (h : mV S) : ∀ n, n ≤ 4 → mEn S n < 625 * 4 ^ n + 5 ^ n
  | 0, _ => by unfold mEn; decide
  | n + 1, hn => by
    have h1 := mEn_lt h n (by omega)
    have h2 := (h.2.1 n (by omega)).1.2
    have h3 := (h.2.1 n (by omega)).2.1.2
    unfold mEn
    have h4 : mSt S n * 4 ^ n ≤ 3 * 4 ^ n := Nat.mul_le_mul_right _ (by omega)
    have h5 : 5 ^ n * mWm S n ≤ 5 ^ n * 4 := Nat.mul_le_mul_left _ (by omega)
    rw [Nat.pow_succ, Nat.pow_succ]
    omega
theorem nI_ge_iff {a b : Nat} (ha : a < 2 ^ 31) (hb : b < 2 ^ 31) : (¬ nI b ≤ nI a) ↔ a < b := by rw [nI_leI hb ha]; omega
theorem mR_t {S : ab_S} (hv : mV S) {k : Nat} (h : mR S ≤ k) (hk : k < 2 ^ 31) : sI S 121 1 ≤ nI k := by
  rw [show sI S 121 1 = nI (mR S) from hv.1.1]; exact nI_le h hk
theorem mR_f {S : ab_S} (hv : mV S) {k : Nat} (h : k < mR S) : ¬ sI S 121 1 ≤ nI k := by
  have := hv.1.2
  rw [show sI S 121 1 = nI (mR S) from hv.1.1, nI_ge_iff (by omega) (by omega)]; exact h
def tb_m_sitting : List (Nat × Instr × Nat) := [(0, .iconst 0, 1), (1, .istore_n 3, 1), (2, .iload_n 3, 1), (3, .aload_n 0, 1), (4, .getfield 13, 3), (7, .iconst 1, 1), (8, .iaload, 1), (9, .if_icmp .ge 20, 3), (12, .iload_n 1, 1), (13, .iload_n 3, 1), (14, .invokestatic 231, 3), (17, .iload_n 2, 1), (18, .if_icmp .ne 5, 3), (21, .iload_n 3, 1), (22, .ireturn, 1), (23, .iinc 3 1, 3), (26, .goto (-24), 3), (29, .iconst (-1), 1), (30, .ireturn, 1)]
theorem tk_m_sitting : ∀ q ∈ tb_m_sitting, decode M_m_sitting.2.1 q.1 = .ok q.2 := by decide +kernel
theorem c_m_sitting {G : ab_G} {S : ab_S} (hm : mSh S) (hv : mV S) (c s : Nat) (hc : c < 160000) (hs : s < 100) : ab_C G 1 M_m_sitting [.ref 120, .int (nI c), .int (nI s)] (sw S) (fun v w' => v = some (.int (if mSit (mR S) c s < mR S then nI (mSit (mR S) c s) else -1)) ∧ w' = sw S) := by
  refine x_enter [some (.ref 120), some (.int (nI c)), some (.int (nI s)), none] (by decide) (Nat.le_of_ble_eq_true rfl) rfl (fun v w' h => by obtain ⟨rfl, rfl⟩ := h; rfl) ?_
  have hR4 := hv.1.2
  have loop : ∀ (m k : Nat), k + m = mR S → sFirst (fun r => mSe c r == s) m k = mSit (mR S) c s → ab_Ex G 1 M_m_sitting 2 [some (.ref 120), some (.int (nI c)), some (.int (nI s)), some (.int (nI k))] [] (sw S) (fun v w' => v = some (.int (if mSit (mR S) c s < mR S then nI (mSit (mR S) c s) else -1)) ∧ w' = sw S) := by
    intro m
    induction m with
    | zero =>
      intro k hk hf
      refine x_iload_n 3 3 (ab_dd tk_m_sitting 2 rfl) rfl rfl rfl ?_
      refine x_aload_n 4 0 (ab_dd tk_m_sitting 3 rfl) rfl rfl rfl ?_
      refine t_getP 7 121 (ab_dd tk_m_sitting 4 rfl) rfl F_m_13 (by decide) (Nat.lt_of_lt_of_le (by decide) hm.1) (hm.2.1 0 (by decide)) rfl (hm.2.2 1 (by decide)) ?_
      refine x_iconst 8 1 (ab_dd tk_m_sitting 5 rfl) rfl (by decide) ?_
      refine t_iald 9 1 (ab_dd tk_m_sitting 6 rfl) rfl (by decide) (Nat.lt_of_lt_of_le (by decide) hm.1) (hm.2.1 1 (by decide)) (by decide) (by decide) (by decide) ?_
      refine x_icmp_ge_t 29 (ab_dd tk_m_sitting 7 rfl) (by decide) (mR_t hv (by omega) (by omega)) ?_
      refine x_iconst 30 (-1) (ab_dd tk_m_sitting 17 rfl) rfl (by decide) ?_
      exact x_iret (ab_dd tk_m_sitting 18 rfl) (by
        unfold sFirst at hf
        rw [← hf]
        exact ⟨by rw [if_neg (by omega)], rfl⟩)
    | succ m ih =>
      intro k hk hf
      refine x_iload_n 3 3 (ab_dd tk_m_sitting 2 rfl) rfl rfl rfl ?_
      refine x_aload_n 4 0 (ab_dd tk_m_sitting 3 rfl) rfl rfl rfl ?_
      refine t_getP 7 121 (ab_dd tk_m_sitting 4 rfl) rfl F_m_13 (by decide) (Nat.lt_of_lt_of_le (by decide) hm.1) (hm.2.1 0 (by decide)) rfl (hm.2.2 1 (by decide)) ?_
      refine x_iconst 8 1 (ab_dd tk_m_sitting 5 rfl) rfl (by decide) ?_
      refine t_iald 9 1 (ab_dd tk_m_sitting 6 rfl) rfl (by decide) (Nat.lt_of_lt_of_le (by decide) hm.1) (hm.2.1 1 (by decide)) (by decide) (by decide) (by decide) ?_
      refine x_icmp_ge_f 12 (ab_dd tk_m_sitting 7 rfl) rfl 29 (by decide) (mR_f hv (by omega)) ?_
      refine x_iload_n 13 1 (ab_dd tk_m_sitting 8 rfl) rfl rfl rfl ?_
      refine x_iload_n 14 3 (ab_dd tk_m_sitting 9 rfl) rfl rfl rfl ?_
      refine x_callS 17 M_m_seatIn 0 2 [_, _] (ab_dd tk_m_sitting 10 rfl) rfl (by decide) K_m_seatIn T_m_seatIn L_m_231 rfl (Nat.le_of_ble_eq_true rfl) (w_seatIn _ c k hc (by omega)) (fun v1 w1 h1 => ?_)
      obtain ⟨rfl, rfl⟩ := h1
      refine x_iload_n 18 2 (ab_dd tk_m_sitting 11 rfl) rfl rfl rfl ?_
      refine x_icmp_ne 21 23 (ab_dd tk_m_sitting 12 rfl) rfl (by decide) (fun h18 => ?_) (fun h18 => ?_)
      · refine x_iincN 26 3 1 (fun y => [some (.ref 120), some (.int (nI c)), some (.int (nI s)), some (.int y)]) (ab_dd tk_m_sitting 15 rfl) rfl (by decide) rfl (by decide) (fun _ => rfl) (fun v1 ev1 => ?_)
        refine x_goto 2 (ab_dd tk_m_sitting 16 rfl) (by decide) ?_
        have hw : v1 = nI (k + 1) := by rw [ev1, nI_1]
        subst hw
        refine ih (k + 1) (by omega) ?_
        have hf2 := hf
        unfold sFirst at hf2
        rw [if_neg (by simp only [beq_iff_eq]; intro e; exact h18 (by rw [e]))] at hf2
        exact hf2
      · refine x_iload_n 22 3 (ab_dd tk_m_sitting 13 rfl) rfl rfl rfl ?_
        exact x_iret (ab_dd tk_m_sitting 14 rfl) (by
          have hq : mSe c k = s := (nI_eq (by have := mSe_lt c k; omega) (by omega)).mp h18
          have hf2 := hf
          unfold sFirst at hf2
          rw [if_pos (by simp only [beq_iff_eq]; exact hq)] at hf2
          rw [← hf2]
          exact ⟨by rw [if_pos (by omega)], rfl⟩)
  refine x_iconst 1 0 (ab_dd tk_m_sitting 0 rfl) rfl (by decide) ?_
  refine x_topi (fun v1 ev1 => ?_)
  refine x_istore_n 2 [some (.ref 120), some (.int (nI c)), some (.int (nI s)), some (.int v1)] 3 (ab_dd tk_m_sitting 1 rfl) rfl rfl (by decide) rfl ?_
  subst ev1
  exact loop (mR S) 0 (by omega) rfl
