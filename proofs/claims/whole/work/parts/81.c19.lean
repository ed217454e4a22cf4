/-- warmths of a stand that was found -/
def cWm (a : Nat → Int32) (k i : Nat) : Nat := (cL a k).getD i 0 % 5 ^ aR a
def tb_ro_nextOf : List (Nat × Instr × Nat) := [(0, .iload_n 1, 1), (1, .iconst 4, 1), (2, .imul, 1), (3, .iload_n 2, 1), (4, .iadd, 1), (5, .istore_n 3, 1), (6, .iload_n 3, 1), (7, .ifCond .lt 12, 3), (10, .iload_n 3, 1), (11, .aload_n 0, 1), (12, .getfield 48, 3), (15, .arraylength, 1), (16, .if_icmp .lt 7, 3), (19, .iconst (-1), 1), (20, .goto 9, 3), (23, .aload_n 0, 1), (24, .getfield 48, 3), (27, .iload_n 3, 1), (28, .iaload, 1), (29, .ireturn, 1)]
theorem tk_ro_nextOf : ∀ q ∈ tb_ro_nextOf, decode M_ro_nextOf.2.1 q.1 = .ok q.2 := by decide +kernel
theorem c_ro_nextOf {G : ab_G} {S : ab_S} {r N : Nat} (hO : roK S r N) (i d : Nat) (hi : i < N) (hd : d < 4) : ab_C G 0 M_ro_nextOf [.ref r, .int (nI i), .int (nI d)] (sw S) (fun v w' => v = some (.int (sI S (r + 4) (i * 4 + d))) ∧ w' = sw S) := by
  refine x_enter [some (.ref r), some (.int (nI i)), some (.int (nI d)), none] (by decide) (Nat.le_of_ble_eq_true rfl) rfl (fun v w' h => by obtain ⟨rfl, rfl⟩ := h; rfl) ?_
  have hN15 : N ≤ 15000 := hO.2.2.2.2.2.2.2.2.2.2.2.2.2.2.2.2.2.2
  refine x_iload_n 1 1 (ab_dd tk_ro_nextOf 0 rfl) rfl rfl rfl ?_
  refine x_iconst 2 4 (ab_dd tk_ro_nextOf 1 rfl) rfl (by decide) (x_topn 4 rfl ?_)
  refine x_imul 3 (ab_dd tk_ro_nextOf 2 rfl) rfl (x_topn (i * 4) (pk_mul _ _) ?_)
  refine x_iload_n 4 2 (ab_dd tk_ro_nextOf 3 rfl) rfl rfl rfl ?_
  refine x_iadd 5 (ab_dd tk_ro_nextOf 4 rfl) rfl (x_topn ((i * 4) + d) (nI_add _ _) ?_)
  refine x_istore_n 6 [some (.ref r), some (.int (nI i)), some (.int (nI d)), some (.int (nI ((i * 4) + d)))] 3 (ab_dd tk_ro_nextOf 5 rfl) rfl rfl (by decide) rfl ?_
  refine x_iload_n 7 3 (ab_dd tk_ro_nextOf 6 rfl) rfl rfl rfl ?_
  refine xn_if_lt 10 19 (ab_dd tk_ro_nextOf 7 rfl) rfl (by decide) (by omega) ?_
  refine x_iload_n 11 3 (ab_dd tk_ro_nextOf 8 rfl) rfl rfl rfl ?_
  refine x_aload_n 12 0 (ab_dd tk_ro_nextOf 9 rfl) rfl rfl rfl ?_
  refine t_getP 15 (r + 4) (ab_dd tk_ro_nextOf 10 rfl) rfl F_ro_48 (by have := hO.1; omega) (Nat.lt_of_le_of_lt (Nat.le_add_right r 7) hO.2.1) hO.2.2.1 rfl hO.2.2.2.2.2.2.2.2.2.2.2.2.2.2.1 ?_
  refine t_alen 16 0 (ab_dd tk_ro_nextOf 11 rfl) rfl (by have := hO.1; omega) (Nat.lt_of_le_of_lt (Nat.add_le_add_left (by decide) r) hO.2.1) rfl hO.2.2.2.2.2.2.1 ?_
  refine x_icmp_lt_t 23 (ab_dd tk_ro_nextOf 12 rfl) (by decide) ((nI_ltI (a := ((i * 4) + d)) (b := (N * 4)) (by omega) (by omega)).mpr (show ((i * 4) + d) < (N * 4) by omega)) ?_
  refine x_aload_n 24 0 (ab_dd tk_ro_nextOf 15 rfl) rfl rfl rfl ?_
  refine t_getP 27 (r + 4) (ab_dd tk_ro_nextOf 16 rfl) rfl F_ro_48 (by have := hO.1; omega) (Nat.lt_of_le_of_lt (Nat.le_add_right r 7) hO.2.1) hO.2.2.1 rfl hO.2.2.2.2.2.2.2.2.2.2.2.2.2.2.1 ?_
  refine x_iload_n 28 3 (ab_dd tk_ro_nextOf 17 rfl) rfl rfl rfl ?_
  refine t_iald 29 ((i * 4) + d) (ab_dd tk_ro_nextOf 18 rfl) rfl (by have := hO.1; omega) (Nat.lt_of_le_of_lt (Nat.add_le_add_left (by decide) r) hO.2.1) hO.2.2.2.2.2.2.1 rfl (by omega) (by omega) ?_
  exact x_iret (ab_dd tk_ro_nextOf 19 rfl) ⟨rfl, rfl⟩
def tb_ro_size : List (Nat × Instr × Nat) := [(0, .aload_n 0, 1), (1, .getfield 38, 3), (4, .arraylength, 1), (5, .ireturn, 1)]
theorem tk_ro_size : ∀ q ∈ tb_ro_size, decode M_ro_size.2.1 q.1 = .ok q.2 := by decide +kernel
theorem c_ro_size {G : ab_G} {S : ab_S} {r N : Nat} (hO : roK S r N) : ab_C G 0 M_ro_size [.ref r] (sw S) (fun v w' => v = some (.int (nI N)) ∧ w' = sw S) := by
  refine x_enter [some (.ref r)] (by decide) (Nat.le_of_ble_eq_true rfl) rfl (fun v w' h => by obtain ⟨rfl, rfl⟩ := h; rfl) ?_
  refine x_aload_n 1 0 (ab_dd tk_ro_size 0 rfl) rfl rfl rfl ?_
  refine t_getP 4 (r + 1) (ab_dd tk_ro_size 1 rfl) rfl F_ro_38 (by have := hO.1; omega) (Nat.lt_of_le_of_lt (Nat.le_add_right r 7) hO.2.1) hO.2.2.1 rfl hO.2.2.2.2.2.2.2.2.2.2.2.1 ?_
  refine t_alen 5 0 (ab_dd tk_ro_size 2 rfl) rfl (by have := hO.1; omega) (Nat.lt_of_le_of_lt (Nat.add_le_add_left (by decide) r) hO.2.1) rfl hO.2.2.2.1 ?_
  exact x_iret (ab_dd tk_ro_size 3 rfl) ⟨rfl, rfl⟩
def tb_ro_warmOf : List (Nat × Instr × Nat) := [(0, .iload_n 1, 1), (1, .ifCond .lt 12, 3), (4, .iload_n 1, 1), (5, .aload_n 0, 1), (6, .getfield 38, 3), (9, .arraylength, 1), (10, .if_icmp .lt 7, 3), (13, .iconst 0, 1), (14, .goto 14, 3), (17, .aload_n 0, 1), (18, .getfield 38, 3), (21, .iload_n 1, 1), (22, .iaload, 1), (23, .aload_n 0, 1), (24, .getfield 19, 3), (27, .irem, 1), (28, .ireturn, 1)]
theorem tk_ro_warmOf : ∀ q ∈ tb_ro_warmOf, decode M_ro_warmOf.2.1 q.1 = .ok q.2 := by decide +kernel
theorem c_ro_warmOf {G : ab_G} {S : ab_S} {r N x : Nat} (hO : roK S r N) {a : Nat → Int32} (ha : aOk a) {k : Nat} (hI : roI S r N x a k) (i : Nat) (hi : i < (cL a k).length) : ab_C G 0 M_ro_warmOf [.ref r, .int (nI i)] (sw S) (fun v w' => v = some (.int (nI (cWm a k i))) ∧ w' = sw S) := by
  refine x_enter [some (.ref r), some (.int (nI i))] (by decide) (Nat.le_of_ble_eq_true rfl) rfl (fun v w' h => by obtain ⟨rfl, rfl⟩ := h; rfl) ?_
  have hN15 : N ≤ 15000 := hO.2.2.2.2.2.2.2.2.2.2.2.2.2.2.2.2.2.2
  obtain ⟨⟨q1, q2, q3, q4⟩, i2, i3, i4, i5, i6, i7, i8, i9⟩ := hI
  have hR := ha.R.2
  have h6 := p5_6 hR
  have hp0 := p5_pos (aR a)
  have hlen : (cL a k).length ≤ N := nd_len (bfB_nd k) (fun c hc => Nat.lt_of_lt_of_le (cL_all ha k c hc) i9)
  have hk24 := kFc_le (aR a)
  have hz : kFc (aR a) * 5 ^ aR a ≤ 24 * 625 := Nat.mul_le_mul hk24 h6
  have hcv := cL_all ha k _ (get_mem hi)
  unfold vC at hcv
  refine x_iload_n 1 1 (ab_dd tk_ro_warmOf 0 rfl) rfl rfl rfl ?_
  refine xn_if_lt 4 13 (ab_dd tk_ro_warmOf 1 rfl) rfl (by decide) (by omega) ?_
  refine x_iload_n 5 1 (ab_dd tk_ro_warmOf 2 rfl) rfl rfl rfl ?_
  refine x_aload_n 6 0 (ab_dd tk_ro_warmOf 3 rfl) rfl rfl rfl ?_
  refine t_getP 9 (r + 1) (ab_dd tk_ro_warmOf 4 rfl) rfl F_ro_38 (by have := hO.1; omega) (Nat.lt_of_le_of_lt (Nat.le_add_right r 7) hO.2.1) hO.2.2.1 rfl hO.2.2.2.2.2.2.2.2.2.2.2.1 ?_
  refine t_alen 10 0 (ab_dd tk_ro_warmOf 5 rfl) rfl (by have := hO.1; omega) (Nat.lt_of_le_of_lt (Nat.add_le_add_left (by decide) r) hO.2.1) rfl hO.2.2.2.1 ?_
  refine x_icmp_lt_t 17 (ab_dd tk_ro_warmOf 6 rfl) (by decide) ((nI_ltI (a := i) (b := N) (by omega) (by omega)).mpr (show i < N by omega)) ?_
  refine x_aload_n 18 0 (ab_dd tk_ro_warmOf 9 rfl) rfl rfl rfl ?_
  refine t_getP 21 (r + 1) (ab_dd tk_ro_warmOf 10 rfl) rfl F_ro_38 (by have := hO.1; omega) (Nat.lt_of_le_of_lt (Nat.le_add_right r 7) hO.2.1) hO.2.2.1 rfl hO.2.2.2.2.2.2.2.2.2.2.2.1 ?_
  refine x_iload_n 22 1 (ab_dd tk_ro_warmOf 11 rfl) rfl rfl rfl ?_
  refine t_iald 23 i (ab_dd tk_ro_warmOf 12 rfl) rfl (by have := hO.1; omega) (Nat.lt_of_le_of_lt (Nat.add_le_add_left (by decide) r) hO.2.1) hO.2.2.2.1 rfl (by omega) (by omega) (x_topn ((cL a k).getD i 0) (q2 i hi) ?_)
  refine x_aload_n 24 0 (ab_dd tk_ro_warmOf 13 rfl) rfl rfl rfl ?_
  refine t_getI 27 (ab_dd tk_ro_warmOf 14 rfl) rfl F_ro_19 (by have := hO.1; omega) (Nat.lt_of_le_of_lt (Nat.le_add_right r 7) hO.2.1) hO.2.2.1 rfl (x_topn (5 ^ aR a) i4 ?_)
  refine x_irem 28 (ab_dd tk_ro_warmOf 15 rfl) rfl (by intro z; have := (nI_eq (a := 5 ^ aR a) (b := 0) (by omega) (by decide)).mp z; omega) (x_topn (((cL a k).getD i 0) % (5 ^ aR a)) (pk_rem (by omega) (by omega) (by omega)) ?_)
  exact x_iret (ab_dd tk_ro_warmOf 16 rfl) ⟨rfl, rfl⟩
def tb_ro_isWarm : List (Nat × Instr × Nat) := [(0, .aload_n 0, 1), (1, .iload_n 1, 1), (2, .invokevirtual 93, 3), (5, .aload_n 0, 1), (6, .getfield 22, 3), (9, .invokestatic 97, 3), (12, .iload_n 2, 1), (13, .if_icmp .lt 7, 3), (16, .iconst 1, 1), (17, .goto 4, 3), (20, .iconst 0, 1), (21, .ireturn, 1)]
theorem tk_ro_isWarm : ∀ q ∈ tb_ro_isWarm, decode M_ro_isWarm.2.1 q.1 = .ok q.2 := by decide +kernel
theorem c_ro_isWarm {G : ab_G} {S : ab_S} {r N x : Nat} (hO : roK S r N) {a : Nat → Int32} (ha : aOk a) {k : Nat} (hI : roI S r N x a k) (i h : Nat) (hi : i < (cL a k).length) (hh : h < 2 ^ 31) : ab_C G 2 M_ro_isWarm [.ref r, .int (nI i), .int (nI h)] (sw S) (fun v w' => v = some (.int (if h ≤ mLe (cWm a k i) (aR a) then 1 else 0)) ∧ w' = sw S) := by
  refine x_enter [some (.ref r), some (.int (nI i)), some (.int (nI h))] (by decide) (Nat.le_of_ble_eq_true rfl) rfl (fun v w' h => by obtain ⟨rfl, rfl⟩ := h; show narrow _ _ = _; split <;> rfl) ?_
  have hI0 := hI
  have hN15 : N ≤ 15000 := hO.2.2.2.2.2.2.2.2.2.2.2.2.2.2.2.2.2.2
  obtain ⟨⟨q1, q2, q3, q4⟩, i2, i3, i4, i5, i6, i7, i8, i9⟩ := hI
  have hR := ha.R.2
  have h6 := p5_6 hR
  have hp0 := p5_pos (aR a)
  have hlen : (cL a k).length ≤ N := nd_len (bfB_nd k) (fun c hc => Nat.lt_of_lt_of_le (cL_all ha k c hc) i9)
  have hk24 := kFc_le (aR a)
  have hz : kFc (aR a) * 5 ^ aR a ≤ 24 * 625 := Nat.mul_le_mul hk24 h6
  have hw5 : cWm a k i < 5 ^ aR a := Nat.mod_lt _ hp0
  have hle := mLe_le (cWm a k i) (aR a)
  refine x_aload_n 1 0 (ab_dd tk_ro_isWarm 0 rfl) rfl rfl rfl ?_
  refine x_iload_n 2 1 (ab_dd tk_ro_isWarm 1 rfl) rfl rfl rfl ?_
  refine t_callV 5 M_ro_warmOf 0 1 [_] (ab_dd tk_ro_isWarm 2 rfl) rfl (by first | decide | omega) K_ro_warmOf V_ro_warmOf.1 V_ro_warmOf.2 L_ro_93 rfl (Nat.le_of_ble_eq_true rfl) (by have := hO.1; omega) (Nat.lt_of_le_of_lt (Nat.le_add_right r 7) hO.2.1) hO.2.2.1 rfl (c_ro_warmOf hO ha hI0 i hi) (fun v1 w1 h1 => ?_)
  obtain ⟨rfl, rfl⟩ := h1
  refine x_aload_n 6 0 (ab_dd tk_ro_isWarm 3 rfl) rfl rfl rfl ?_
  refine t_getI 9 (ab_dd tk_ro_isWarm 4 rfl) rfl F_ro_22 (by have := hO.1; omega) (Nat.lt_of_le_of_lt (Nat.le_add_right r 7) hO.2.1) hO.2.2.1 rfl (x_topn (aR a) i5 ?_)
  refine x_callS 12 M_s_leastOf 1 2 [_, _] (ab_dd tk_ro_isWarm 5 rfl) rfl (by first | decide | omega) K_s_leastOf T_s_leastOf L_ro_97 rfl (Nat.le_of_ble_eq_true rfl) (c_s_leastOf (cWm a k i) (aR a) (by omega) (by omega)) (fun v1 w1 h1 => ?_)
  obtain ⟨rfl, rfl⟩ := h1
  refine x_iload_n 13 2 (ab_dd tk_ro_isWarm 6 rfl) rfl rfl rfl ?_
  refine xn_icmp_lt 16 20 (ab_dd tk_ro_isWarm 7 rfl) rfl (by decide) (by omega) (by omega) (fun h13 => ?_) (fun h13 => ?_)
  · refine x_iconst 21 0 (ab_dd tk_ro_isWarm 10 rfl) rfl (by decide) (x_topn 0 rfl ?_)
    exact x_iret (ab_dd tk_ro_isWarm 11 rfl) ⟨rI (if_neg (by omega)).symm, rfl⟩
  · refine x_iconst 17 1 (ab_dd tk_ro_isWarm 8 rfl) rfl (by decide) (x_topn 1 rfl ?_)
    refine x_goto 21 (ab_dd tk_ro_isWarm 9 rfl) (by decide) ?_
    exact x_iret (ab_dd tk_ro_isWarm 11 rfl) ⟨rI (if_pos h13).symm, rfl⟩
theorem roI.end {a : Nat → Int32} {k k' : Nat} (h : k ≤ k') {i : Nat} (hi : i < (cL a k).length) : (cL a k').getD i 0 = (cL a k).getD i 0 := (bfB_mono (nx := nxC a) (c0 := aQ a * 5 ^ aR a + aW a) h).get hi
theorem cWm_mono {a : Nat → Int32} {k k' i : Nat} (h : k ≤ k') (hi : i < (cL a k).length) : cWm a k' i = cWm a k i := by unfold cWm; rw [roI.end h hi]
theorem cL_len {a : Nat → Int32} {k k' : Nat} (h : k ≤ k') : (cL a k).length ≤ (cL a k').length := (bfB_mono (nx := nxC a) (c0 := aQ a * 5 ^ aR a + aW a) h).len
def tb_ro_firstWarm : List (Nat × Instr × Nat) := [(0, .iconst 0, 1), (1, .istore_n 2, 1), (2, .iload_n 2, 1), (3, .aload_n 0, 1), (4, .getfield 25, 3), (7, .if_icmp .ge 34, 3), (10, .iload_n 2, 1), (11, .aload_n 0, 1), (12, .getfield 38, 3), (15, .arraylength, 1), (16, .if_icmp .ge 25, 3), (19, .aload_n 0, 1), (20, .iload_n 2, 1), (21, .iload_n 1, 1), (22, .invokevirtual 100, 3), (25, .ifCond .eq 5, 3), (28, .iload_n 2, 1), (29, .ireturn, 1), (30, .aload_n 0, 1), (31, .iload_n 2, 1), (32, .invokevirtual 89, 3), (35, .iinc 2 1, 3), (38, .goto (-36), 3), (41, .iconst (-1), 1), (42, .ireturn, 1)]
theorem tk_ro_firstWarm : ∀ q ∈ tb_ro_firstWarm, decode M_ro_firstWarm.2.1 q.1 = .ok q.2 := by decide +kernel
theorem c_ro_firstWarm {G : ab_G} {S : ab_S} (hx : xSh S) (hse : seOk S) (kc : kSh S.1) {im : Nat → Prop} (him : imO im) {x c bh nb st : Nat} {a : Nat → Int32} (hX : x = 84 ∨ x = 94) (hcl : clI S im x c a bh nb st) (ha : aGood a) {r N : Nat} (hO : roK S r N) (hri : ∀ y, r ≤ y → y ≤ r + 7 → ¬ im y) (hrb : bh < r ∨ r + 7 < bh) {k : Nat} (hI : roI S r N x a k) (h : Nat) (hh : h < 2 ^ 31) : ab_C G 5 M_ro_firstWarm [.ref r, .int (nI h)] (sw S) (fun v w' => ∃ S' k' v0, v = some (.int v0) ∧ w' = sw S' ∧ sEq [x + 5, x + 6, x + 7, x + 8, x + 9, bh, r, r + 1, r + 2, r + 3, r + 4] S S' ∧ clI S' im x c a bh nb st ∧ roI S' r N x a k' ∧ sI S' r 9 = sI S r 9 ∧ sI S' r 14 = sI S r 14 ∧ k ≤ k' ∧ ((∃ t, v0 = nI t ∧ t < (cL a k').length ∧ t ≤ k' ∧ h ≤ mLe (cWm a k' t) (aR a) ∧ ∀ i, i < t → ¬ h ≤ mLe (cWm a k' i) (aR a)) ∨ (v0 = -1 ∧ k' = (cL a k').length ∧ ∀ i, i < k' → ¬ h ≤ mLe (cWm a k' i) (aR a)))) := by
  refine x_enter [some (.ref r), some (.int (nI h)), none] (by decide) (Nat.le_of_ble_eq_true rfl) rfl (fun v w' z => by obtain ⟨S', k', v0, rfl, -⟩ := z; rfl) ?_
  have hR := ha.1.R.2
  have hN15 : N ≤ 15000 := hO.2.2.2.2.2.2.2.2.2.2.2.2.2.2.2.2.2.2
  have hr145 := hO.1
  have hcl0 := hcl
  obtain ⟨-, -, -, -, -, -, -, -, -, -, hnb, hbh, -⟩ := hcl0
  have lp : ∀ (m j : Nat), j + m = N → ∀ (S1 : ab_S) (k1 : Nat), sEq [x + 5, x + 6, x + 7, x + 8, x + 9, bh, r, r + 1, r + 2, r + 3, r + 4] S S1 → clI S1 im x c a bh nb st → roI S1 r N x a k1 → sI S1 r 9 = sI S r 9 → sI S1 r 14 = sI S r 14 → k ≤ k1 → j ≤ k1 → (∀ i, i < j → ¬ h ≤ mLe (cWm a k1 i) (aR a)) → ab_Ex G 5 M_ro_firstWarm 2 [some (.ref r), some (.int (nI h)), some (.int (nI j))] [] (sw S1) (fun v w' => ∃ S' k' v0, v = some (.int v0) ∧ w' = sw S' ∧ sEq [x + 5, x + 6, x + 7, x + 8, x + 9, bh, r, r + 1, r + 2, r + 3, r + 4] S S' ∧ clI S' im x c a bh nb st ∧ roI S' r N x a k' ∧ sI S' r 9 = sI S r 9 ∧ sI S' r 14 = sI S r 14 ∧ k ≤ k' ∧ ((∃ t, v0 = nI t ∧ t < (cL a k').length ∧ t ≤ k' ∧ h ≤ mLe (cWm a k' t) (aR a) ∧ ∀ i, i < t → ¬ h ≤ mLe (cWm a k' i) (aR a)) ∨ (v0 = -1 ∧ k' = (cL a k').length ∧ ∀ i, i < k' → ¬ h ≤ mLe (cWm a k' i) (aR a)))) := by
    intro m
    induction m with
    | zero =>
      intro j hj S1 k1 hE1 hcl1 hI1 h9 h14 hkk hjk hno
      have hO1 : roK S1 r N := hO.eq hE1
      have hI1b := hI1
      obtain ⟨⟨q1, q2, q3, q4⟩, i2, i3, i4, i5, i6, i7, i8, i9⟩ := hI1b
      have hlen : (cL a k1).length ≤ N := nd_len (bfB_nd k1) (fun c hc => Nat.lt_of_lt_of_le (cL_all ha.1 k1 c hc) i9)
      refine x_iload_n 3 2 (ab_dd tk_ro_firstWarm 2 rfl) rfl rfl rfl ?_
      refine x_aload_n 4 0 (ab_dd tk_ro_firstWarm 3 rfl) rfl rfl rfl ?_
      refine t_getI 7 (ab_dd tk_ro_firstWarm 4 rfl) rfl F_ro_25 (by have := hO1.1; omega) (Nat.lt_of_le_of_lt (Nat.le_add_right r 7) hO1.2.1) hO1.2.2.1 rfl (x_topn ((cL a k1).length) q1 ?_)
      refine x_icmp_ge_t 41 (ab_dd tk_ro_firstWarm 5 rfl) (by decide) ((nI_leI (a := ((cL a k1).length)) (b := j) (by omega) (by omega)).mpr (show ((cL a k1).length) ≤ j by omega)) ?_
      refine x_iconst 42 (-1) (ab_dd tk_ro_firstWarm 23 rfl) rfl (by decide) ?_
      exact x_iret (ab_dd tk_ro_firstWarm 24 rfl) ⟨S1, k1, _, rfl, rfl, hE1, hcl1, hI1, h9, h14, hkk, Or.inr ⟨rfl, by omega, fun i hi => hno i (by omega)⟩⟩
    | succ m ih =>
      intro j hj S1 k1 hE1 hcl1 hI1 h9 h14 hkk hjk hno
      have hO1 : roK S1 r N := hO.eq hE1
      have hI1b := hI1
      obtain ⟨⟨q1, q2, q3, q4⟩, i2, i3, i4, i5, i6, i7, i8, i9⟩ := hI1b
      have hlen : (cL a k1).length ≤ N := nd_len (bfB_nd k1) (fun c hc => Nat.lt_of_lt_of_le (cL_all ha.1 k1 c hc) i9)
      refine x_iload_n 3 2 (ab_dd tk_ro_firstWarm 2 rfl) rfl rfl rfl ?_
      refine x_aload_n 4 0 (ab_dd tk_ro_firstWarm 3 rfl) rfl rfl rfl ?_
      refine t_getI 7 (ab_dd tk_ro_firstWarm 4 rfl) rfl F_ro_25 (by have := hO1.1; omega) (Nat.lt_of_le_of_lt (Nat.le_add_right r 7) hO1.2.1) hO1.2.2.1 rfl (x_topn ((cL a k1).length) q1 ?_)
      refine xn_icmp_ge 10 41 (ab_dd tk_ro_firstWarm 5 rfl) rfl (by decide) (by omega) (by omega) (fun h7 => ?_) (fun h7 => ?_)
      · refine x_iconst 42 (-1) (ab_dd tk_ro_firstWarm 23 rfl) rfl (by decide) ?_
        exact x_iret (ab_dd tk_ro_firstWarm 24 rfl) ⟨S1, k1, _, rfl, rfl, hE1, hcl1, hI1, h9, h14, hkk, Or.inr ⟨rfl, by omega, fun i hi => hno i (by omega)⟩⟩
      · refine x_iload_n 11 2 (ab_dd tk_ro_firstWarm 6 rfl) rfl rfl rfl ?_
        refine x_aload_n 12 0 (ab_dd tk_ro_firstWarm 7 rfl) rfl rfl rfl ?_
        refine t_getP 15 (r + 1) (ab_dd tk_ro_firstWarm 8 rfl) rfl F_ro_38 (by have := hO1.1; omega) (Nat.lt_of_le_of_lt (Nat.le_add_right r 7) hO1.2.1) hO1.2.2.1 rfl hO1.2.2.2.2.2.2.2.2.2.2.2.1 ?_
        refine t_alen 16 0 (ab_dd tk_ro_firstWarm 9 rfl) rfl (by have := hO1.1; omega) (Nat.lt_of_le_of_lt (Nat.add_le_add_left (by decide) r) hO1.2.1) rfl hO1.2.2.2.1 ?_
        refine x_icmp_ge_f 19 (ab_dd tk_ro_firstWarm 10 rfl) rfl 41 (by decide) (fun z => absurd ((nI_leI (a := N) (b := j) (by omega) (by omega)).mp z) (show ¬ (N ≤ j) by omega)) ?_
        refine x_aload_n 20 0 (ab_dd tk_ro_firstWarm 11 rfl) rfl rfl rfl ?_
        refine x_iload_n 21 2 (ab_dd tk_ro_firstWarm 12 rfl) rfl rfl rfl ?_
        refine x_iload_n 22 1 (ab_dd tk_ro_firstWarm 13 rfl) rfl rfl rfl ?_
        refine t_callV 25 M_ro_isWarm 2 2 [_, _] (ab_dd tk_ro_firstWarm 14 rfl) rfl (by first | decide | omega) K_ro_isWarm V_ro_isWarm.1 V_ro_isWarm.2 L_ro_100 rfl (Nat.le_of_ble_eq_true rfl) (by have := hO1.1; omega) (Nat.lt_of_le_of_lt (Nat.le_add_right r 7) hO1.2.1) hO1.2.2.1 rfl (c_ro_isWarm hO1 ha.1 hI1 j h h7 hh) (fun v1 w1 h1 => ?_)
        obtain ⟨rfl, rfl⟩ := h1
        refine xb_if_eq 28 30 (ab_dd tk_ro_firstWarm 15 rfl) rfl (by decide) (fun h25 => ?_) (fun h25 => ?_)
        · refine x_aload_n 31 0 (ab_dd tk_ro_firstWarm 18 rfl) rfl rfl rfl ?_
          refine x_iload_n 32 2 (ab_dd tk_ro_firstWarm 19 rfl) rfl rfl rfl ?_
          have hx1 : xSh S1 := hx.eq hE1
          have hse1 : seOk S1 := hse.eq hE1 (by simp only [List.mem_cons, List.not_mem_nil, or_false, not_or]; omega) (by simp only [List.mem_cons, List.not_mem_nil, or_false, not_or]; omega) (by simp only [List.mem_cons, List.not_mem_nil, or_false, not_or]; omega) (by simp only [List.mem_cons, List.not_mem_nil, or_false, not_or]; omega)
          have kc1 : kSh S1.1 := by rw [hE1.1]; exact kc
          refine t_callV 35 M_ro_openTo 4 1 [_] (ab_dd tk_ro_firstWarm 20 rfl) rfl (by first | decide | omega) K_ro_openTo V_ro_openTo.1 V_ro_openTo.2 L_ro_89 rfl (Nat.le_of_ble_eq_true rfl) (by have := hO1.1; omega) (Nat.lt_of_le_of_lt (Nat.le_add_right r 7) hO1.2.1) hO1.2.2.1 rfl (c_ro_openTo hx1 hse1 kc1 him hX hcl1 ha hO1 hri hrb hI1 j (by omega)) (fun v1 w1 h1 => ?_)
          obtain ⟨rfl, S2, k2, rfl, hE2, hcl2, hI2, hn9, hn14, hk12, hT2⟩ := h1
          have hO2 : roK S2 r N := hO1.eq hE2
          have hcl12 := cL_len (a := a) hk12
          refine xn_iinc 38 2 (fun y => [some (.ref r), some (.int (nI h)), some (.int y)]) (j + 1) (ab_dd tk_ro_firstWarm 21 rfl) rfl (by decide) rfl (fun _ => rfl) (iinc_p 1) ?_
          refine x_goto 2 (ab_dd tk_ro_firstWarm 22 rfl) (by decide) ?_
          exact ih (j + 1) (by omega) S2 k2 (hE1.tr hE2) hcl2 hI2 (hn9.trans h9) (hn14.trans h14) (by omega) (by omega) (fun i hi => by
            rw [cWm_mono hk12 (by omega)]
            by_cases z : i = j
            · rw [z]; exact h25
            · exact hno i (by omega))
        · refine x_iload_n 29 2 (ab_dd tk_ro_firstWarm 16 rfl) rfl rfl rfl ?_
          exact x_iret (ab_dd tk_ro_firstWarm 17 rfl) ⟨S1, k1, _, rfl, rfl, hE1, hcl1, hI1, h9, h14, hkk, Or.inl ⟨j, rfl, h7, hjk, h25, hno⟩⟩
  refine x_iconst 1 0 (ab_dd tk_ro_firstWarm 0 rfl) rfl (by decide) (x_topn 0 rfl ?_)
  refine x_istore_n 2 [some (.ref r), some (.int (nI h)), some (.int (nI 0))] 2 (ab_dd tk_ro_firstWarm 1 rfl) rfl rfl (by decide) rfl ?_
  exact lp N 0 (by omega) S k sEq.rf hcl hI rfl rfl (Nat.le_refl _) (Nat.zero_le _) (fun i hi => absurd hi (Nat.not_lt_zero i))
def tb_ro_greatestWarmth : List (Nat × Instr × Nat) := [(0, .iconst 0, 1), (1, .istore_n 2, 1), (2, .iconst 0, 1), (3, .istore_n 3, 1), (4, .iload_n 3, 1), (5, .aload_n 0, 1), (6, .getfield 25, 3), (9, .if_icmp .ge 42, 3), (12, .iload_n 3, 1), (13, .aload_n 0, 1), (14, .getfield 38, 3), (17, .arraylength, 1), (18, .if_icmp .ge 33, 3), (21, .iload_n 2, 1), (22, .iconst 4, 1), (23, .if_icmp .ge 28, 3), (26, .iload_n 2, 1), (27, .aload_n 0, 1), (28, .iload_n 3, 1), (29, .invokevirtual 93, 3), (32, .iload_n 1, 1), (33, .invokestatic 129, 3), (36, .invokestatic 124, 3), (39, .istore_n 2, 1), (40, .aload_n 0, 1), (41, .iload_n 3, 1), (42, .invokevirtual 89, 3), (45, .iinc 3 1, 3), (48, .goto (-44), 3), (51, .iload_n 2, 1), (52, .ireturn, 1)]
theorem tk_ro_greatestWarmth : ∀ q ∈ tb_ro_greatestWarmth, decode M_ro_greatestWarmth.2.1 q.1 = .ok q.2 := by decide +kernel
/-- the greatest warmth of a rider in the first j stands -/
def mxC (a : Nat → Int32) (k p : Nat) : Nat → Nat
  | 0 => 0
  | j + 1 => if mWa (cWm a k j) p ≤ mxC a k p j then mxC a k p j else mWa (cWm a k j) p
theorem mxC_le (a : Nat → Int32) (k p : Nat) : ∀ j, mxC a k p j ≤ 4
  | 0 => by show 0 ≤ 4; decide
  | j + 1 => by
    have h1 := mxC_le a k p j
    have h2 := mWa_lt (cWm a k j) p
    unfold mxC
    split <;> omega
theorem mxC_cg {a : Nat → Int32} {k k' p : Nat} : ∀ j, (∀ i, i < j → cWm a k i = cWm a k' i) → mxC a k p j = mxC a k' p j
  | 0, _ => rfl
  | j + 1, h => by unfold mxC; rw [h j (by omega), mxC_cg j (fun i hi => h i (by omega))]
theorem mxC_mo {a : Nat → Int32} {k p j : Nat} : ∀ m, mxC a k p j ≤ mxC a k p (j + m)
  | 0 => Nat.le_refl _
  | m + 1 => by
    have := mxC_mo (a := a) (k := k) (p := p) (j := j) m
    show _ ≤ (if mWa (cWm a k (j + m)) p ≤ mxC a k p (j + m) then mxC a k p (j + m) else mWa (cWm a k (j + m)) p)
    split <;> omega
theorem c_ro_greatestWarmth {G : ab_G} {S : ab_S} (hx : xSh S) (hse : seOk S) (kc : kSh S.1) {im : Nat → Prop} (him : imO im) {x c bh nb st : Nat} {a : Nat → Int32} (hX : x = 84 ∨ x = 94) (hcl : clI S im x c a bh nb st) (ha : aGood a) {r N : Nat} (hO : roK S r N) (hri : ∀ y, r ≤ y → y ≤ r + 7 → ¬ im y) (hrb : bh < r ∨ r + 7 < bh) {k : Nat} (hI : roI S r N x a k) (p : Nat) (hp4 : p < 4) : ab_C G 5 M_ro_greatestWarmth [.ref r, .int (nI p)] (sw S) (fun v w' => ∃ S' k', v = some (.int (nI (mxC a k' p (cL a k').length))) ∧ w' = sw S' ∧ sEq [x + 5, x + 6, x + 7, x + 8, x + 9, bh, r, r + 1, r + 2, r + 3, r + 4] S S' ∧ clI S' im x c a bh nb st ∧ roI S' r N x a k' ∧ sI S' r 9 = sI S r 9 ∧ sI S' r 14 = sI S r 14 ∧ k ≤ k' ∧ (k' = (cL a k').length ∨ mxC a k' p (cL a k').length = 4)) := by
  refine x_enter [some (.ref r), some (.int (nI p)), none, none] (by decide) (Nat.le_of_ble_eq_true rfl) rfl (fun v w' z => by obtain ⟨S', k', rfl, -⟩ := z; rfl) ?_
  have hR := ha.1.R.2
  have hN15 : N ≤ 15000 := hO.2.2.2.2.2.2.2.2.2.2.2.2.2.2.2.2.2.2
  have hr145 := hO.1
  have hcl0 := hcl
  obtain ⟨-, -, -, -, -, -, -, -, -, -, hnb, hbh, -⟩ := hcl0
  have lp : ∀ (m j : Nat), j + m = N → ∀ (S1 : ab_S) (k1 : Nat), sEq [x + 5, x + 6, x + 7, x + 8, x + 9, bh, r, r + 1, r + 2, r + 3, r + 4] S S1 → clI S1 im x c a bh nb st → roI S1 r N x a k1 → sI S1 r 9 = sI S r 9 → sI S1 r 14 = sI S r 14 → k ≤ k1 → j ≤ k1 → j ≤ (cL a k1).length → ab_Ex G 5 M_ro_greatestWarmth 4 [some (.ref r), some (.int (nI p)), some (.int (nI (mxC a k1 p j))), some (.int (nI j))] [] (sw S1) (fun v w' => ∃ S' k', v = some (.int (nI (mxC a k' p (cL a k').length))) ∧ w' = sw S' ∧ sEq [x + 5, x + 6, x + 7, x + 8, x + 9, bh, r, r + 1, r + 2, r + 3, r + 4] S S' ∧ clI S' im x c a bh nb st ∧ roI S' r N x a k' ∧ sI S' r 9 = sI S r 9 ∧ sI S' r 14 = sI S r 14 ∧ k ≤ k' ∧ (k' = (cL a k').length ∨ mxC a k' p (cL a k').length = 4)) := by
    intro m
    induction m with
    | zero =>
      intro j hj S1 k1 hE1 hcl1 hI1 h9 h14 hkk hjk hjl
      have hO1 : roK S1 r N := hO.eq hE1
      have hI1b := hI1
      obtain ⟨⟨q1, q2, q3, q4⟩, i2, i3, i4, i5, i6, i7, i8, i9⟩ := hI1b
      have hlen : (cL a k1).length ≤ N := nd_len (bfB_nd k1) (fun c hc => Nat.lt_of_lt_of_le (cL_all ha.1 k1 c hc) i9)
      have hg4 := mxC_le a k1 p j
      refine x_iload_n 5 3 (ab_dd tk_ro_greatestWarmth 4 rfl) rfl rfl rfl ?_
      refine x_aload_n 6 0 (ab_dd tk_ro_greatestWarmth 5 rfl) rfl rfl rfl ?_
      refine t_getI 9 (ab_dd tk_ro_greatestWarmth 6 rfl) rfl F_ro_25 (by have := hO1.1; omega) (Nat.lt_of_le_of_lt (Nat.le_add_right r 7) hO1.2.1) hO1.2.2.1 rfl (x_topn ((cL a k1).length) q1 ?_)
      refine x_icmp_ge_t 51 (ab_dd tk_ro_greatestWarmth 7 rfl) (by decide) ((nI_leI (a := ((cL a k1).length)) (b := j) (by omega) (by omega)).mpr (show ((cL a k1).length) ≤ j by omega)) ?_
      refine x_iload_n 52 2 (ab_dd tk_ro_greatestWarmth 29 rfl) rfl rfl rfl ?_
      have hjl2 : j = (cL a k1).length := by omega
      rw [hjl2]
      exact x_iret (ab_dd tk_ro_greatestWarmth 30 rfl) ⟨S1, k1, rfl, rfl, hE1, hcl1, hI1, h9, h14, hkk, Or.inl (by omega)⟩
    | succ m ih =>
      intro j hj S1 k1 hE1 hcl1 hI1 h9 h14 hkk hjk hjl
      have hO1 : roK S1 r N := hO.eq hE1
      have hI1b := hI1
      obtain ⟨⟨q1, q2, q3, q4⟩, i2, i3, i4, i5, i6, i7, i8, i9⟩ := hI1b
      have hlen : (cL a k1).length ≤ N := nd_len (bfB_nd k1) (fun c hc => Nat.lt_of_lt_of_le (cL_all ha.1 k1 c hc) i9)
      have hg4 := mxC_le a k1 p j
      have kc1z : kSh S1.1 := by rw [hE1.1]; exact kc
      have h50z : 50 ≤ sn S1 := Nat.le_trans (by decide) (hx.eq hE1).1
      have hp5 := p5_6 hR
      have hw6 : cWm a k1 j < 5 ^ aR a := Nat.mod_lt _ (p5_pos _)
      have hw5 := mWa_lt (cWm a k1 j) p
      refine x_iload_n 5 3 (ab_dd tk_ro_greatestWarmth 4 rfl) rfl rfl rfl ?_
      refine x_aload_n 6 0 (ab_dd tk_ro_greatestWarmth 5 rfl) rfl rfl rfl ?_
      refine t_getI 9 (ab_dd tk_ro_greatestWarmth 6 rfl) rfl F_ro_25 (by have := hO1.1; omega) (Nat.lt_of_le_of_lt (Nat.le_add_right r 7) hO1.2.1) hO1.2.2.1 rfl (x_topn ((cL a k1).length) q1 ?_)
      refine xn_icmp_ge 12 51 (ab_dd tk_ro_greatestWarmth 7 rfl) rfl (by decide) (by omega) (by omega) (fun h9b => ?_) (fun h9b => ?_)
      · refine x_iload_n 52 2 (ab_dd tk_ro_greatestWarmth 29 rfl) rfl rfl rfl ?_
        have hjl2 : j = (cL a k1).length := by omega
        rw [hjl2]
        exact x_iret (ab_dd tk_ro_greatestWarmth 30 rfl) ⟨S1, k1, rfl, rfl, hE1, hcl1, hI1, h9, h14, hkk, Or.inl (by omega)⟩
      · refine x_iload_n 13 3 (ab_dd tk_ro_greatestWarmth 8 rfl) rfl rfl rfl ?_
        refine x_aload_n 14 0 (ab_dd tk_ro_greatestWarmth 9 rfl) rfl rfl rfl ?_
        refine t_getP 17 (r + 1) (ab_dd tk_ro_greatestWarmth 10 rfl) rfl F_ro_38 (by have := hO1.1; omega) (Nat.lt_of_le_of_lt (Nat.le_add_right r 7) hO1.2.1) hO1.2.2.1 rfl hO1.2.2.2.2.2.2.2.2.2.2.2.1 ?_
        refine t_alen 18 0 (ab_dd tk_ro_greatestWarmth 11 rfl) rfl (by have := hO1.1; omega) (Nat.lt_of_le_of_lt (Nat.add_le_add_left (by decide) r) hO1.2.1) rfl hO1.2.2.2.1 ?_
        refine x_icmp_ge_f 21 (ab_dd tk_ro_greatestWarmth 12 rfl) rfl 51 (by decide) (fun z => absurd ((nI_leI (a := N) (b := j) (by omega) (by omega)).mp z) (show ¬ (N ≤ j) by omega)) ?_
        refine x_iload_n 22 2 (ab_dd tk_ro_greatestWarmth 13 rfl) rfl rfl rfl ?_
        refine x_iconst 23 4 (ab_dd tk_ro_greatestWarmth 14 rfl) rfl (by decide) (x_topn 4 rfl ?_)
        refine xn_icmp_ge 26 51 (ab_dd tk_ro_greatestWarmth 15 rfl) rfl (by decide) (by omega) (by omega) (fun h23 => ?_) (fun h23 => ?_)
        · refine x_iload_n 52 2 (ab_dd tk_ro_greatestWarmth 29 rfl) rfl rfl rfl ?_
          have hm := mxC_mo (a := a) (k := k1) (p := p) (j := j) ((cL a k1).length - j)
          rw [show j + ((cL a k1).length - j) = (cL a k1).length by omega] at hm
          have hm2 := mxC_le a k1 p (cL a k1).length
          have hm3 : mxC a k1 p j = mxC a k1 p (cL a k1).length := by omega
          rw [hm3]
          exact x_iret (ab_dd tk_ro_greatestWarmth 30 rfl) ⟨S1, k1, rfl, rfl, hE1, hcl1, hI1, h9, h14, hkk, Or.inr (by omega)⟩
        · refine x_iload_n 27 2 (ab_dd tk_ro_greatestWarmth 16 rfl) rfl rfl rfl ?_
          refine x_aload_n 28 0 (ab_dd tk_ro_greatestWarmth 17 rfl) rfl rfl rfl ?_
          refine x_iload_n 29 3 (ab_dd tk_ro_greatestWarmth 18 rfl) rfl rfl rfl ?_
          refine t_callV 32 M_ro_warmOf 0 1 [_] (ab_dd tk_ro_greatestWarmth 19 rfl) rfl (by first | decide | omega) K_ro_warmOf V_ro_warmOf.1 V_ro_warmOf.2 L_ro_93 rfl (Nat.le_of_ble_eq_true rfl) (by have := hO1.1; omega) (Nat.lt_of_le_of_lt (Nat.le_add_right r 7) hO1.2.1) hO1.2.2.1 rfl (c_ro_warmOf hO1 ha.1 hI1 j h9b) (fun v1 w1 h1 => ?_)
          obtain ⟨rfl, rfl⟩ := h1
          refine x_iload_n 33 1 (ab_dd tk_ro_greatestWarmth 20 rfl) rfl rfl rfl ?_
          refine x_callS 36 M_s_warmthOf 0 2 [_, _] (ab_dd tk_ro_greatestWarmth 21 rfl) rfl (by first | decide | omega) K_s_warmthOf T_s_warmthOf L_ro_129 rfl (Nat.le_of_ble_eq_true rfl) (c_s_warmthOf (by exact kc1z) (by exact h50z) (cWm a k1 j) p (by omega) (by omega)) (fun v1 w1 h1 => ?_)
          obtain ⟨rfl, rfl⟩ := h1
          refine x_callS 39 M_jM_max 0 2 [_, _] (ab_dd tk_ro_greatestWarmth 22 rfl) rfl (by first | decide | omega) K_jM_max T_jM_max L_ro_124 rfl (Nat.le_of_ble_eq_true rfl) (w_max _ (mxC a k1 p j) (mWa (cWm a k1 j) p) (by omega) (by omega)) (fun v1 w1 h1 => ?_)
          obtain ⟨rfl, rfl⟩ := h1
          refine x_istore_n 40 [some (.ref r), some (.int (nI p)), some (.int (nI (mxC a k1 p (j + 1)))), some (.int (nI j))] 2 (ab_dd tk_ro_greatestWarmth 23 rfl) rfl rfl (by decide) rfl ?_
          refine x_aload_n 41 0 (ab_dd tk_ro_greatestWarmth 24 rfl) rfl rfl rfl ?_
          refine x_iload_n 42 3 (ab_dd tk_ro_greatestWarmth 25 rfl) rfl rfl rfl ?_
          have hx1 : xSh S1 := hx.eq hE1
          have hse1 : seOk S1 := hse.eq hE1 (by simp only [List.mem_cons, List.not_mem_nil, or_false, not_or]; omega) (by simp only [List.mem_cons, List.not_mem_nil, or_false, not_or]; omega) (by simp only [List.mem_cons, List.not_mem_nil, or_false, not_or]; omega) (by simp only [List.mem_cons, List.not_mem_nil, or_false, not_or]; omega)
          have kc1 : kSh S1.1 := by rw [hE1.1]; exact kc
          refine t_callV 45 M_ro_openTo 4 1 [_] (ab_dd tk_ro_greatestWarmth 26 rfl) rfl (by first | decide | omega) K_ro_openTo V_ro_openTo.1 V_ro_openTo.2 L_ro_89 rfl (Nat.le_of_ble_eq_true rfl) (by have := hO1.1; omega) (Nat.lt_of_le_of_lt (Nat.le_add_right r 7) hO1.2.1) hO1.2.2.1 rfl (c_ro_openTo hx1 hse1 kc1 him hX hcl1 ha hO1 hri hrb hI1 j (by omega)) (fun v1 w1 h1 => ?_)
          obtain ⟨rfl, S2, k2, rfl, hE2, hcl2, hI2, hn9, hn14, hk12, hT2⟩ := h1
          have hO2 : roK S2 r N := hO1.eq hE2
          have hcl12 := cL_len (a := a) hk12
          refine xn_iinc 48 3 (fun y => [some (.ref r), some (.int (nI p)), some (.int (nI (mxC a k1 p (j + 1)))), some (.int y)]) (j + 1) (ab_dd tk_ro_greatestWarmth 27 rfl) rfl (by decide) rfl (fun _ => rfl) (iinc_p 1) ?_
          refine x_goto 4 (ab_dd tk_ro_greatestWarmth 28 rfl) (by decide) ?_
          have hcg : mxC a k1 p (j + 1) = mxC a k2 p (j + 1) := mxC_cg (j + 1) (fun i hi => (cWm_mono hk12 (by omega)).symm)
          have h := ih (j + 1) (by omega) S2 k2 (hE1.tr hE2) hcl2 hI2 (hn9.trans h9) (hn14.trans h14) (by omega) (by omega) (by omega)
          rw [← hcg] at h
          exact h
  refine x_iconst 1 0 (ab_dd tk_ro_greatestWarmth 0 rfl) rfl (by decide) (x_topn 0 rfl ?_)
  refine x_istore_n 2 [some (.ref r), some (.int (nI p)), some (.int (nI 0)), none] 2 (ab_dd tk_ro_greatestWarmth 1 rfl) rfl rfl (by decide) rfl ?_
  refine x_iconst 3 0 (ab_dd tk_ro_greatestWarmth 2 rfl) rfl (by decide) (x_topn 0 rfl ?_)
  refine x_istore_n 4 [some (.ref r), some (.int (nI p)), some (.int (nI 0)), some (.int (nI 0))] 3 (ab_dd tk_ro_greatestWarmth 3 rfl) rfl rfl (by decide) rfl ?_
  exact lp N 0 (by omega) S k sEq.rf hcl hI rfl rfl (Nat.le_refl _) (Nat.zero_le _) (Nat.zero_le _)
