/-! ===== a stand's number and its digits ===== -/
theorem dig_se {c : Nat} : mSe c 0 = c / 625 % 4 ∧ mSe c 1 = c / 625 / 4 % 4 ∧ mSe c 2 = c / 625 / 16 % 4 ∧ mSe c 3 = c / 625 / 64 % 4 := ⟨by unfold mSe; rw [show 4 ^ 0 = 1 from rfl, Nat.div_one], rfl, rfl, rfl⟩
theorem dig_wa {c : Nat} : mWa c 0 = c % 625 % 5 ∧ mWa c 1 = c % 625 / 5 % 5 ∧ mWa c 2 = c % 625 / 25 % 5 ∧ mWa c 3 = c % 625 / 125 % 5 := ⟨by unfold mWa; rw [show 5 ^ 0 = 1 from rfl, Nat.div_one], rfl, rfl, rfl⟩
/-- a number out of digits -/
def mCo (se wa : Nat → Nat) : Nat := 625 * (se 0 + 4 * se 1 + 16 * se 2 + 64 * se 3) + (wa 0 + 5 * wa 1 + 25 * wa 2 + 125 * wa 3)
theorem mCo_ok {se wa : Nat → Nat} (h1 : ∀ r, r < 4 → se r < 4) (h2 : ∀ r, r < 4 → wa r < 5) : mCo se wa < 160000 ∧ (∀ r, r < 4 → mSe (mCo se wa) r = se r) ∧ ∀ r, r < 4 → mWa (mCo se wa) r = wa r := by
  have a0 := h1 0 (by decide)
  have a1 := h1 1 (by decide)
  have a2 := h1 2 (by decide)
  have a3 := h1 3 (by decide)
  have b0 := h2 0 (by decide)
  have b1 := h2 1 (by decide)
  have b2 := h2 2 (by decide)
  have b3 := h2 3 (by decide)
  have d := @dig_se (mCo se wa)
  have e := @dig_wa (mCo se wa)
  unfold mCo at d e ⊢
  refine ⟨by omega, r4 ?_ ?_ ?_ ?_, r4 ?_ ?_ ?_ ?_⟩
  · rw [d.1]; omega
  · rw [d.2.1]; omega
  · rw [d.2.2.1]; omega
  · rw [d.2.2.2]; omega
  · rw [e.1]; omega
  · rw [e.2.1]; omega
  · rw [e.2.2.1]; omega
  · rw [e.2.2.2]; omega
theorem mCo_of {c : Nat} (hc : c < 160000) : mCo (mSe c) (mWa c) = c := by
  have d := @dig_se c
  have e := @dig_wa c
  unfold mCo
  rw [d.1, d.2.1, d.2.2.1, d.2.2.2, e.1, e.2.1, e.2.2.1, e.2.2.2]
  omega
theorem mCo_cg {se wa se' wa' : Nat → Nat} (h1 : ∀ r, r < 4 → se r = se' r) (h2 : ∀ r, r < 4 → wa r = wa' r) : mCo se wa = mCo se' wa' := by
  unfold mCo
  rw [h1 0 (by decide), h1 1 (by decide), h1 2 (by decide), h1 3 (by decide), h2 0 (by decide), h2 1 (by decide), h2 2 (by decide), h2 3 (by decide)]
theorem mC_ext {c c' : Nat} (hc : c < 160000) (hc' : c' < 160000) (h1 : ∀ r, r < 4 → mSe c r = mSe c' r) (h2 : ∀ r, r < 4 → mWa c r = mWa c' r) : c = c' := by
  rw [← mCo_of hc, ← mCo_of hc']
  exact mCo_cg h1 h2
/-- a stand of n riders: below the bound, seats taken by riders, nothing behind the last rider -/
def mOk (n c : Nat) : Prop := c < 160000 ∧ mPm n c ∧ (∀ r, r < 4 → n ≤ r → mSe c r = 0 ∧ mWa c r = 0) ∧ ∀ r, r < n → mSe c r < n
theorem mEn_co {S : ab_S} : ∀ n, n ≤ 4 → mEn S n = mCo (fun r => if r < n then mSt S r else 0) (fun r => if r < n then mWm S r else 0) := by
  intro n hn
  match n, hn with
  | 0, _ => rfl
  | 1, _ => simp only [mEn, mCo]; simp
  | 2, _ => simp only [mEn, mCo]; simp; omega
  | 3, _ => simp only [mEn, mCo]; simp; omega
  | 4, _ => simp only [mEn, mCo]; simp; omega
theorem mEn_dig {S : ab_S} (hv : mV S) {n : Nat} (hn : n ≤ 4) : mEn S n < 160000 ∧ (∀ r, r < 4 → mSe (mEn S n) r = if r < n then mSt S r else 0) ∧ ∀ r, r < 4 → mWa (mEn S n) r = if r < n then mWm S r else 0 := by
  rw [mEn_co n hn]
  refine mCo_ok (fun r hr => ?_) (fun r hr => ?_)
  · have := (hv.2.1 r hr).1.2
    show (if r < n then mSt S r else 0) < 4
    split <;> omega
  · have := (hv.2.1 r hr).2.1.2
    show (if r < n then mWm S r else 0) < 5
    split <;> omega
/-- the seats of the reference are the riders' -/
def mPe (S : ab_S) : Prop := (∀ s, s < mR S → ∃ r, r < mR S ∧ mSt S r = s) ∧ ∀ r, r < mR S → mSt S r < mR S
theorem sFirst_lt {p : Nat → Bool} {n r : Nat} (h : r < n) (hp : p r = true) : sFirst p n 0 < n := by
  have h1 := sFirst_le p n 0
  rcases Nat.lt_or_ge (sFirst p n 0) n with z | z
  · exact z
  · have := sFirst_no p n 0 r (Nat.zero_le _) (by omega)
    rw [hp] at this
    cases this
theorem mEn_ok {S : ab_S} (hv : mV S) (hp : mPe S) : mOk (mR S) (mEn S (mR S)) := by
  have h := mEn_dig hv hv.1.2
  have hR := hv.1.2
  refine ⟨h.1, fun s hs => ?_, fun r hr hn => ?_, fun r hr => ?_⟩
  · obtain ⟨r, h1, h2⟩ := hp.1 s hs
    refine sFirst_lt h1 ?_
    show (mSe (mEn S (mR S)) r == s) = true
    rw [h.2.1 r (by omega), if_pos h1, h2]
    exact beq_self_eq_true s
  · rw [h.2.1 r hr, h.2.2 r hr, if_neg (by omega), if_neg (by omega)]
    exact ⟨rfl, rfl⟩
  · rw [h.2.1 r (by omega), if_pos hr]
    exact hp.2 r hr
def tb_m_isStand : List (Nat × Instr × Nat) := [(0, .iconst 0, 1), (1, .istore_n 2, 1), (2, .iload_n 2, 1), (3, .aload_n 0, 1), (4, .getfield 13, 3), (7, .iconst 1, 1), (8, .iaload, 1), (9, .if_icmp .ge 37, 3), (12, .aload_n 0, 1), (13, .getfield 13, 3), (16, .bipush 36, 2), (18, .iload_n 2, 1), (19, .iadd, 1), (20, .iload_n 1, 1), (21, .iload_n 2, 1), (22, .invokestatic 231, 3), (25, .iastore, 1), (26, .aload_n 0, 1), (27, .getfield 13, 3), (30, .bipush 32, 2), (32, .iload_n 2, 1), (33, .iadd, 1), (34, .iload_n 1, 1), (35, .iload_n 2, 1), (36, .invokestatic 228, 3), (39, .iastore, 1), (40, .iinc 2 1, 3), (43, .goto (-41), 3), (46, .return_, 1)]
theorem tk_m_isStand : ∀ q ∈ tb_m_isStand, decode M_m_isStand.2.1 q.1 = .ok q.2 := by decide +kernel
/-- the reference's row with the stand c -/
def mPut (a : Nat → Int32) (n c : Nat) : Nat → Int32 := fun i => if 36 ≤ i ∧ i < 36 + n then nI (mSe c (i - 36)) else if 32 ≤ i ∧ i < 32 + n then nI (mWa c (i - 32)) else a i
theorem c_m_isStand {G : ab_G} {S : ab_S} (hm : mSh S) (hv : mV S) (c : Nat) (hc : c < 160000) : ab_C G 2 M_m_isStand [.ref 120, .int (nI c)] (sw S) (fun v w' => v = none ∧ ∃ S', w' = sw S' ∧ sEq [121] S S' ∧ mA S' = mPut (mA S) (mR S) c) := by
  refine x_enter [some (.ref 120), some (.int (nI c)), none] (by decide) (Nat.le_of_ble_eq_true rfl) rfl (fun v w' h => by obtain ⟨rfl, -⟩ := h; trivial) ?_
  have hR4 := hv.1.2
  have loop : ∀ (m k : Nat), k + m = mR S → ∀ S1 : ab_S, sEq [121] S S1 → mA S1 = mPut (mA S) k c → ab_Ex G 2 M_m_isStand 2 [some (.ref 120), some (.int (nI c)), some (.int (nI k))] [] (sw S1) (fun v w' => v = none ∧ ∃ S', w' = sw S' ∧ sEq [121] S S' ∧ mA S' = mPut (mA S) (mR S) c) := by
    intro m
    induction m with
    | zero =>
      intro k hk S1 hE hV
      have hm1 := hm.eq hE
      have e1 : sI S1 121 1 = nI (mR S) := by
        rw [show sI S1 121 = mPut (mA S) k c from hV]
        show mPut (mA S) k c 1 = _
        unfold mPut
        rw [if_neg (by omega), if_neg (by omega)]
        exact hv.1.1
      refine x_iload_n 3 2 (ab_dd tk_m_isStand 2 rfl) rfl rfl rfl ?_
      refine x_aload_n 4 0 (ab_dd tk_m_isStand 3 rfl) rfl rfl rfl ?_
      refine t_getP 7 121 (ab_dd tk_m_isStand 4 rfl) rfl F_m_13 (by decide) (Nat.lt_of_lt_of_le (by decide) hm1.1) (hm1.2.1 0 (by decide)) rfl (hm1.2.2 1 (by decide)) ?_
      refine x_iconst 8 1 (ab_dd tk_m_isStand 5 rfl) rfl (by decide) ?_
      refine t_iald 9 1 (ab_dd tk_m_isStand 6 rfl) rfl (by decide) (Nat.lt_of_lt_of_le (by decide) hm1.1) (hm1.2.1 1 (by decide)) (by decide) (by decide) (by decide) ?_
      refine x_icmp_ge_t 46 (ab_dd tk_m_isStand 7 rfl) (by decide) (by rw [e1]; exact nI_le (by omega) (by omega)) ?_
      exact x_vret (ab_dd tk_m_isStand 28 rfl) ⟨rfl, S1, rfl, hE, by rw [hV, show k = mR S by omega]⟩
    | succ m ih =>
      intro k hk S1 hE hV
      have hm1 := hm.eq hE
      have e1 : sI S1 121 1 = nI (mR S) := by
        rw [show sI S1 121 = mPut (mA S) k c from hV]
        show mPut (mA S) k c 1 = _
        unfold mPut
        rw [if_neg (by omega), if_neg (by omega)]
        exact hv.1.1
      refine x_iload_n 3 2 (ab_dd tk_m_isStand 2 rfl) rfl rfl rfl ?_
      refine x_aload_n 4 0 (ab_dd tk_m_isStand 3 rfl) rfl rfl rfl ?_
      refine t_getP 7 121 (ab_dd tk_m_isStand 4 rfl) rfl F_m_13 (by decide) (Nat.lt_of_lt_of_le (by decide) hm1.1) (hm1.2.1 0 (by decide)) rfl (hm1.2.2 1 (by decide)) ?_
      refine x_iconst 8 1 (ab_dd tk_m_isStand 5 rfl) rfl (by decide) ?_
      refine t_iald 9 1 (ab_dd tk_m_isStand 6 rfl) rfl (by decide) (Nat.lt_of_lt_of_le (by decide) hm1.1) (hm1.2.1 1 (by decide)) (by decide) (by decide) (by decide) ?_
      refine x_icmp_ge_f 12 (ab_dd tk_m_isStand 7 rfl) rfl 46 (by decide) (by rw [e1, nI_ge_iff (by omega) (by omega)]; omega) ?_
      refine x_aload_n 13 0 (ab_dd tk_m_isStand 8 rfl) rfl rfl rfl ?_
      refine t_getP 16 121 (ab_dd tk_m_isStand 9 rfl) rfl F_m_13 (by decide) (Nat.lt_of_lt_of_le (by decide) hm1.1) (hm1.2.1 0 (by decide)) rfl (hm1.2.2 1 (by decide)) ?_
      refine x_bipush 18 36 (ab_dd tk_m_isStand 10 rfl) rfl (by decide) ?_
      refine x_iload_n 19 2 (ab_dd tk_m_isStand 11 rfl) rfl rfl rfl ?_
      refine x_iadd 20 (ab_dd tk_m_isStand 12 rfl) rfl ?_
      refine x_iload_n 21 1 (ab_dd tk_m_isStand 13 rfl) rfl rfl rfl ?_
      refine x_iload_n 22 2 (ab_dd tk_m_isStand 14 rfl) rfl rfl rfl ?_
      refine x_callS 25 M_m_seatIn 0 2 [_, _] (ab_dd tk_m_isStand 15 rfl) rfl (by decide) K_m_seatIn T_m_seatIn L_m_231 rfl (Nat.le_of_ble_eq_true rfl) (w_seatIn _ c k hc (by omega)) (fun v1 w1 h1 => ?_)
      obtain ⟨rfl, rfl⟩ := h1
      refine t_iast 26 (36 + k) (ab_dd tk_m_isStand 16 rfl) rfl (by decide) (Nat.lt_of_lt_of_le (by decide) hm1.1) (hm1.2.1 1 (by decide)) (by rw [show (36 : Int32) = nI 36 from rfl, nI_add]) (by omega) (by decide) ?_
      refine x_aload_n 27 0 (ab_dd tk_m_isStand 17 rfl) rfl rfl rfl ?_
      refine t_getP 30 121 (ab_dd tk_m_isStand 18 rfl) rfl F_m_13 (by decide) (Nat.lt_of_lt_of_le (by decide) hm1.1) (hm1.2.1 0 (by decide)) rfl (hm1.2.2 1 (by decide)) ?_
      refine x_bipush 32 32 (ab_dd tk_m_isStand 19 rfl) rfl (by decide) ?_
      refine x_iload_n 33 2 (ab_dd tk_m_isStand 20 rfl) rfl rfl rfl ?_
      refine x_iadd 34 (ab_dd tk_m_isStand 21 rfl) rfl ?_
      refine x_iload_n 35 1 (ab_dd tk_m_isStand 22 rfl) rfl rfl rfl ?_
      refine x_iload_n 36 2 (ab_dd tk_m_isStand 23 rfl) rfl rfl rfl ?_
      refine x_callS 39 M_m_warmthIn 1 2 [_, _] (ab_dd tk_m_isStand 24 rfl) rfl (by decide) K_m_warmthIn T_m_warmthIn L_m_228 rfl (Nat.le_of_ble_eq_true rfl) (w_warmthIn _ c k hc (by omega)) (fun v1 w1 h1 => ?_)
      obtain ⟨rfl, rfl⟩ := h1
      refine t_iast 40 (32 + k) (ab_dd tk_m_isStand 25 rfl) rfl (by decide) (Nat.lt_of_lt_of_le (by decide) hm1.1) (hm1.2.1 1 (by decide)) (by rw [show (32 : Int32) = nI 32 from rfl, nI_add]) (by omega) (by decide) ?_
      refine x_iincN 43 2 1 (fun y => [some (.ref 120), some (.int (nI c)), some (.int y)]) (ab_dd tk_m_isStand 26 rfl) rfl (by decide) rfl (by decide) (fun _ => rfl) (fun v1 ev1 => ?_)
      refine x_goto 2 (ab_dd tk_m_isStand 27 rfl) (by decide) ?_
      have hw : v1 = nI (k + 1) := by rw [ev1, nI_1]
      subst hw
      refine ih (k + 1) (by omega) _ ((hE.pI (by decide)).pI (by decide)) ?_
      funext i
      show up2 (up2 (sI S1) 121 (36 + k) _) 121 (32 + k) _ 121 i = _
      rw [show mPut (mA S) (k + 1) c i = if i = 36 + k then nI (mSe c k) else if i = 32 + k then nI (mWa c k) else mPut (mA S) k c i from ?_]
      · by_cases h1 : i = 32 + k
        · subst h1
          rw [up2_s, if_neg (by omega), if_pos rfl]
        · rw [up2_k h1]
          by_cases h2 : i = 36 + k
          · subst h2
            rw [up2_s, if_pos rfl]
          · rw [up2_k h2, if_neg h2, if_neg h1]
            exact congrFun hV i
      · unfold mPut
        by_cases h2 : i = 36 + k
        · subst h2
          rw [if_pos ⟨by omega, by omega⟩, if_pos rfl, show 36 + k - 36 = k by omega]
        · rw [if_neg h2]
          by_cases h3 : 36 ≤ i ∧ i < 36 + k
          · rw [if_pos ⟨h3.1, by omega⟩, if_neg (by omega), if_pos h3]
          · rw [if_neg (fun z => h3 ⟨z.1, by omega⟩)]
            by_cases h1 : i = 32 + k
            · subst h1
              rw [if_pos ⟨by omega, by omega⟩, if_pos rfl, show 32 + k - 32 = k by omega]
            · rw [if_neg h1, if_neg h3]
              by_cases h4 : 32 ≤ i ∧ i < 32 + k
              · rw [if_pos ⟨h4.1, by omega⟩, if_pos h4]
              · rw [if_neg (fun z => h4 ⟨z.1, by omega⟩), if_neg h4]
  refine x_iconst 1 0 (ab_dd tk_m_isStand 0 rfl) rfl (by decide) ?_
  refine x_topi (fun v1 ev1 => ?_)
  refine x_istore_n 2 [some (.ref 120), some (.int (nI c)), some (.int v1)] 2 (ab_dd tk_m_isStand 1 rfl) rfl rfl (by decide) rfl ?_
  subst ev1
  exact loop (mR S) 0 (by omega) S sEq.rf (by funext i; unfold mPut; rw [if_neg (by omega), if_neg (by omega)])
