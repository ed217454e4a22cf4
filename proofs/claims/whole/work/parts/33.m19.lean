/-! ===== images and trays of the reference ===== -/
/-- the row with its first part kept as image q too -/
def mImg (a : Nat → Int32) (q : Nat) : Nat → Int32 := fun j => if 1084 * (q + 1) ≤ j ∧ j < 1084 * (q + 1) + 1084 then a (j - 1084 * (q + 1)) else a j
def tb_m_image : List (Nat × Instr × Nat) := [(0, .aload_n 0, 1), (1, .iconst 0, 1), (2, .putfield 1, 3), (5, .iload_n 1, 1), (6, .i2l, 1), (7, .lconst 0, 1), (8, .lconst 1, 1), (9, .invokestatic 159, 3), (12, .ifCond .ne 6, 3), (15, .bipush (-2), 2), (17, .ireturn, 1), (18, .iconst 0, 1), (19, .istore_n 2, 1), (20, .iload_n 2, 1), (21, .sipush 1084, 3), (24, .if_icmp .ge 29, 3), (27, .aload_n 0, 1), (28, .getfield 13, 3), (31, .sipush 1084, 3), (34, .iload_n 1, 1), (35, .iconst 1, 1), (36, .iadd, 1), (37, .imul, 1), (38, .iload_n 2, 1), (39, .iadd, 1), (40, .aload_n 0, 1), (41, .getfield 13, 3), (44, .iload_n 2, 1), (45, .iaload, 1), (46, .iastore, 1), (47, .iinc 2 1, 3), (50, .goto (-30), 3), (53, .aload_n 0, 1), (54, .getfield 17, 3), (57, .iload_n 1, 1), (58, .iconst 1, 1), (59, .bastore, 1), (60, .iconst 0, 1), (61, .ireturn, 1)]
theorem tk_m_image : ∀ q ∈ tb_m_image, decode M_m_image.2.1 q.1 = .ok q.2 := by decide +kernel
theorem c_m_image {G : ab_G} {S : ab_S} (hm : mSh S) (i : Int32) : ab_C G 1 M_m_image [.ref 120, .int i] (sw S) (fun v w' => ∃ S', w' = sw S' ∧ sEq [121, 122] (m0 S) S' ∧ (((0 ≤ i ∧ i ≤ 1) ∧ v = some (.int 0) ∧ mA S' = mImg (mA (m0 S)) (cN i) ∧ sI S' 122 = up1 (sI (m0 S) 122) (cN i) 1) ∨ (¬ (0 ≤ i ∧ i ≤ 1) ∧ v = some (.int (-2)) ∧ S' = m0 S))) := by
  have hm0 : mSh (m0 S) := hm
  have go : ∀ q : Nat, q ≤ 1 → i = nI q → cN i = q → ab_Ex G 1 M_m_image 20 [some (.ref 120), some (.int (nI q)), some (.int (nI 0))] [] (sw (m0 S)) (fun v w' => ∃ S', w' = sw S' ∧ sEq [121, 122] (m0 S) S' ∧ (((0 ≤ i ∧ i ≤ 1) ∧ v = some (.int 0) ∧ mA S' = mImg (mA (m0 S)) (cN i) ∧ sI S' 122 = up1 (sI (m0 S) 122) (cN i) 1) ∨ (¬ (0 ≤ i ∧ i ≤ 1) ∧ v = some (.int (-2)) ∧ S' = m0 S))) := by
    intro q hq ei ec
    have hz : (0 ≤ i ∧ i ≤ 1) := by rw [ei, show (0 : Int32) = nI 0 from rfl, show (1 : Int32) = nI 1 from rfl, nI_leI (by decide) (by omega), nI_leI (by omega) (by decide)]; omega
    have loop : ∀ (m k : Nat), k + m = 1084 → ∀ S1 : ab_S, sEq [121] (m0 S) S1 → (∀ i, sI S1 121 i = if (1084 * (q + 1)) ≤ i ∧ i < (1084 * (q + 1)) + k then (mA (m0 S)) (i - (1084 * (q + 1))) else sI (m0 S) 121 i) → ab_Ex G 1 M_m_image 20 [some (.ref 120), some (.int (nI q)), some (.int (nI k))] [] (sw S1) (fun v w' => ∃ S', w' = sw S' ∧ sEq [121, 122] (m0 S) S' ∧ (((0 ≤ i ∧ i ≤ 1) ∧ v = some (.int 0) ∧ mA S' = mImg (mA (m0 S)) (cN i) ∧ sI S' 122 = up1 (sI (m0 S) 122) (cN i) 1) ∨ (¬ (0 ≤ i ∧ i ≤ 1) ∧ v = some (.int (-2)) ∧ S' = m0 S))) := by
      intro m
      induction m with
      | zero =>
        intro k hk S1 hE hV
        have hm1 := hm0.eq hE
        have hkN : k = 1084 := by omega
        rw [hkN] at hV ⊢
        refine x_iload_n 21 2 (ab_dd tk_m_image 13 rfl) rfl rfl rfl ?_
        refine x_sipush 24 1084 (ab_dd tk_m_image 14 rfl) rfl (by decide) (x_topn 1084 rfl ?_)
        refine x_icmp_ge_t 53 (ab_dd tk_m_image 15 rfl) (by decide) ((nI_leI (a := 1084) (b := 1084) (by omega) (by omega)).mpr (show 1084 ≤ 1084 by omega)) ?_
        refine x_aload_n 54 0 (ab_dd tk_m_image 32 rfl) rfl rfl rfl ?_
        refine t_getP 57 122 (ab_dd tk_m_image 33 rfl) rfl F_m_17 (by decide) (Nat.lt_of_lt_of_le (by decide) hm1.1) (hm1.2.1 0 (by decide)) rfl (hm1.2.2 2 (by decide)) ?_
        refine x_iload_n 58 1 (ab_dd tk_m_image 34 rfl) rfl rfl rfl ?_
        refine x_iconst 59 1 (ab_dd tk_m_image 35 rfl) rfl (by decide) (x_topn 1 rfl ?_)
        refine t_zast 60 q (ab_dd tk_m_image 36 rfl) rfl (by decide) (Nat.lt_of_lt_of_le (by decide) hm1.1) (hm1.2.1 2 (by decide)) rfl (by omega) (by decide) ?_
        refine x_iconst 61 0 (ab_dd tk_m_image 37 rfl) rfl (by decide) (x_topn 0 rfl ?_)
        exact x_iret (ab_dd tk_m_image 38 rfl) ⟨_, rfl, (hE.mono (by decide)).pI (by decide), Or.inl ⟨hz, rfl, by
          funext j
          rw [ec]
          show sI S1 121 j = _
          exact hV j, by
          rw [ec]
          funext j
          show up2 (sI S1) 122 q _ 122 j = _
          by_cases h : j = q
          · subst h; rw [up2_s, up1_s] <;> rfl
          · rw [up2_k h, up1_o h, hE.2.2.1 122 (by decide)]⟩⟩
      | succ m ih =>
        intro k hk S1 hE hV
        have hm1 := hm0.eq hE
        refine x_iload_n 21 2 (ab_dd tk_m_image 13 rfl) rfl rfl rfl ?_
        refine x_sipush 24 1084 (ab_dd tk_m_image 14 rfl) rfl (by decide) (x_topn 1084 rfl ?_)
        refine x_icmp_ge_f 27 (ab_dd tk_m_image 15 rfl) rfl 53 (by decide) (fun z => absurd ((nI_leI (a := 1084) (b := k) (by omega) (by omega)).mp z) (show ¬ (1084 ≤ k) by omega)) ?_
        refine x_aload_n 28 0 (ab_dd tk_m_image 16 rfl) rfl rfl rfl ?_
        refine t_getP 31 121 (ab_dd tk_m_image 17 rfl) rfl F_m_13 (by decide) (Nat.lt_of_lt_of_le (by decide) hm1.1) (hm1.2.1 0 (by decide)) rfl (hm1.2.2 1 (by decide)) ?_
        refine x_sipush 34 1084 (ab_dd tk_m_image 18 rfl) rfl (by decide) (x_topn 1084 rfl ?_)
        refine x_iload_n 35 1 (ab_dd tk_m_image 19 rfl) rfl rfl rfl ?_
        refine x_iconst 36 1 (ab_dd tk_m_image 20 rfl) rfl (by decide) (x_topn 1 rfl ?_)
        refine x_iadd 37 (ab_dd tk_m_image 21 rfl) rfl (x_topn (q + 1) (nI_add _ _) ?_)
        refine x_imul 38 (ab_dd tk_m_image 22 rfl) rfl (x_topn (1084 * (q + 1)) (pk_mul _ _) ?_)
        refine x_iload_n 39 2 (ab_dd tk_m_image 23 rfl) rfl rfl rfl ?_
        refine x_iadd 40 (ab_dd tk_m_image 24 rfl) rfl (x_topn ((1084 * (q + 1)) + k) (nI_add _ _) ?_)
        refine x_aload_n 41 0 (ab_dd tk_m_image 25 rfl) rfl rfl rfl ?_
        refine t_getP 44 121 (ab_dd tk_m_image 26 rfl) rfl F_m_13 (by decide) (Nat.lt_of_lt_of_le (by decide) hm1.1) (hm1.2.1 0 (by decide)) rfl (hm1.2.2 1 (by decide)) ?_
        refine x_iload_n 45 2 (ab_dd tk_m_image 27 rfl) rfl rfl rfl ?_
        refine t_iald 46 k (ab_dd tk_m_image 28 rfl) rfl (by decide) (Nat.lt_of_lt_of_le (by decide) hm1.1) (hm1.2.1 1 (by decide)) rfl (by omega) (by decide) ?_
        refine t_iast 47 ((1084 * (q + 1)) + k) (ab_dd tk_m_image 29 rfl) rfl (by decide) (Nat.lt_of_lt_of_le (by decide) hm1.1) (hm1.2.1 1 (by decide)) rfl (by omega) (by decide) ?_
        refine xn_iinc 50 2 (fun y => [some (.ref 120), some (.int (nI q)), some (.int y)]) (k + 1) (ab_dd tk_m_image 30 rfl) rfl (by decide) rfl (fun _ => rfl) (iinc_p 1) ?_
        refine x_goto 20 (ab_dd tk_m_image 31 rfl) (by decide) ?_
        refine ih (k + 1) (by omega) _ ?_ ?_
        · exact hE.pI (by decide)
        · intro i
          show up2 (sI S1) 121 ((1084 * (q + 1)) + k) _ 121 i = _
          by_cases hi : i = (1084 * (q + 1)) + k
          · rw [hi, up2_s, if_pos ⟨by omega, by omega⟩, show (1084 * (q + 1)) + k - (1084 * (q + 1)) = k by omega]
            rw [hV k, if_neg (by omega)]
          · rw [up2_k hi, hV i]
            by_cases h1 : (1084 * (q + 1)) ≤ i ∧ i < (1084 * (q + 1)) + k
            · rw [if_pos h1, if_pos ⟨h1.1, by omega⟩]
            · rw [if_neg h1, if_neg (fun z => h1 ⟨z.1, by omega⟩)]
    exact loop 1084 0 rfl _ sEq.rf (fun j => by rw [if_neg (by omega)])
  refine x_enter [some (.ref 120), some (.int i), none] (by decide) (Nat.le_of_ble_eq_true rfl) rfl (fun v w' h => by obtain ⟨S', rfl, -, h⟩ := h; rcases h with ⟨-, rfl, -⟩ | ⟨-, rfl, -⟩ <;> rfl) ?_
  refine x_aload_n 1 0 (ab_dd tk_m_image 0 rfl) rfl rfl rfl ?_
  refine x_iconst 2 0 (ab_dd tk_m_image 1 rfl) rfl (by decide) (x_topn 0 rfl ?_)
  refine t_putI 5 (ab_dd tk_m_image 2 rfl) rfl F_m_1 (by decide) (Nat.lt_of_lt_of_le (by decide) hm0.1) (hm0.2.1 0 (by decide)) rfl rfl rfl ?_
  refine x_iload_n 6 1 (ab_dd tk_m_image 3 rfl) rfl rfl rfl ?_
  refine x_i2l 7 (ab_dd tk_m_image 4 rfl) rfl ?_
  refine x_lconst 8 0 (ab_dd tk_m_image 5 rfl) rfl (by decide) ?_
  refine x_lconst 9 1 (ab_dd tk_m_image 6 rfl) rfl (by decide) ?_
  refine x_callS 12 M_m_within 0 3 [_, _, _] (ab_dd tk_m_image 7 rfl) rfl (by decide) K_m_within T_m_within L_m_159 rfl (Nat.le_of_ble_eq_true rfl) (w_inI 0 1 rfl rfl _) (fun v1 w1 h1 => ?_)
  obtain ⟨rfl, rfl⟩ := h1
  refine xb_if_ne 15 18 (ab_dd tk_m_image 8 rfl) rfl (by decide) (fun h12 => ?_) (fun h12 => ?_)
  · obtain ⟨q, hq, ei, ec⟩ := in_get (n := 1) (by decide) h12
    refine x_iconst 19 0 (ab_dd tk_m_image 11 rfl) rfl (by decide) (x_topn 0 rfl ?_)
    refine x_istore_n 20 [some (.ref 120), some (.int i), some (.int (nI 0))] 2 (ab_dd tk_m_image 12 rfl) rfl rfl (by decide) rfl ?_
    rw [show some (Value.int i) = some (Value.int (nI q)) by rw [ei]]
    exact go q hq ei ec
  · refine x_bipush 17 (-2) (ab_dd tk_m_image 9 rfl) rfl (by decide) ?_
    exact x_iret (ab_dd tk_m_image 10 rfl) ⟨_, rfl, sEq.rf, Or.inr ⟨h12, rfl, rfl⟩⟩
/-- the row as image q has it -/
def mRes (a : Nat → Int32) (q : Nat) : Nat → Int32 := fun j => if j = 42 then 0 else if j < 1084 then a (1084 * (q + 1) + j) else a j
def tb_m_restore : List (Nat × Instr × Nat) := [(0, .aload_n 0, 1), (1, .iconst 0, 1), (2, .putfield 1, 3), (5, .iload_n 1, 1), (6, .i2l, 1), (7, .lconst 0, 1), (8, .lconst 1, 1), (9, .invokestatic 159, 3), (12, .ifCond .ne 6, 3), (15, .bipush (-2), 2), (17, .ireturn, 1), (18, .aload_n 0, 1), (19, .getfield 17, 3), (22, .iload_n 1, 1), (23, .baload, 1), (24, .ifCond .ne 6, 3), (27, .bipush (-5), 2), (29, .ireturn, 1), (30, .iconst 0, 1), (31, .istore_n 2, 1), (32, .iload_n 2, 1), (33, .sipush 1084, 3), (36, .if_icmp .ge 29, 3), (39, .aload_n 0, 1), (40, .getfield 13, 3), (43, .iload_n 2, 1), (44, .aload_n 0, 1), (45, .getfield 13, 3), (48, .sipush 1084, 3), (51, .iload_n 1, 1), (52, .iconst 1, 1), (53, .iadd, 1), (54, .imul, 1), (55, .iload_n 2, 1), (56, .iadd, 1), (57, .iaload, 1), (58, .iastore, 1), (59, .iinc 2 1, 3), (62, .goto (-30), 3), (65, .aload_n 0, 1), (66, .getfield 13, 3), (69, .bipush 42, 2), (71, .iconst 0, 1), (72, .iastore, 1), (73, .iconst 0, 1), (74, .ireturn, 1)]
theorem tk_m_restore : ∀ q ∈ tb_m_restore, decode M_m_restore.2.1 q.1 = .ok q.2 := by decide +kernel
theorem c_m_restore {G : ab_G} {S : ab_S} (hm : mSh S) (i : Int32) : ab_C G 1 M_m_restore [.ref 120, .int i] (sw S) (fun v w' => ∃ S', w' = sw S' ∧ sEq [121] (m0 S) S' ∧ (((0 ≤ i ∧ i ≤ 1) ∧ ¬ sI (m0 S) 122 (cN i) = 0 ∧ v = some (.int 0) ∧ mA S' = mRes (mA (m0 S)) (cN i)) ∨ ((0 ≤ i ∧ i ≤ 1) ∧ sI (m0 S) 122 (cN i) = 0 ∧ v = some (.int (-5)) ∧ S' = m0 S) ∨ (¬ (0 ≤ i ∧ i ≤ 1) ∧ v = some (.int (-2)) ∧ S' = m0 S))) := by
  have hm0 : mSh (m0 S) := hm
  have go : ∀ q : Nat, q ≤ 1 → i = nI q → cN i = q → ¬ sI (m0 S) 122 q = 0 → ab_Ex G 1 M_m_restore 32 [some (.ref 120), some (.int (nI q)), some (.int (nI 0))] [] (sw (m0 S)) (fun v w' => ∃ S', w' = sw S' ∧ sEq [121] (m0 S) S' ∧ (((0 ≤ i ∧ i ≤ 1) ∧ ¬ sI (m0 S) 122 (cN i) = 0 ∧ v = some (.int 0) ∧ mA S' = mRes (mA (m0 S)) (cN i)) ∨ ((0 ≤ i ∧ i ≤ 1) ∧ sI (m0 S) 122 (cN i) = 0 ∧ v = some (.int (-5)) ∧ S' = m0 S) ∨ (¬ (0 ≤ i ∧ i ≤ 1) ∧ v = some (.int (-2)) ∧ S' = m0 S))) := by
    intro q hq ei ec hq0
    have hz : (0 ≤ i ∧ i ≤ 1) := by rw [ei, show (0 : Int32) = nI 0 from rfl, show (1 : Int32) = nI 1 from rfl, nI_leI (by decide) (by omega), nI_leI (by omega) (by decide)]; omega
    have loop : ∀ (m k : Nat), k + m = 1084 → ∀ S1 : ab_S, sEq [121] (m0 S) S1 → (∀ i, sI S1 121 i = if 0 ≤ i ∧ i < 0 + k then (fun j => mA (m0 S) (1084 * (q + 1) + j)) (i - 0) else sI (m0 S) 121 i) → ab_Ex G 1 M_m_restore 32 [some (.ref 120), some (.int (nI q)), some (.int (nI k))] [] (sw S1) (fun v w' => ∃ S', w' = sw S' ∧ sEq [121] (m0 S) S' ∧ (((0 ≤ i ∧ i ≤ 1) ∧ ¬ sI (m0 S) 122 (cN i) = 0 ∧ v = some (.int 0) ∧ mA S' = mRes (mA (m0 S)) (cN i)) ∨ ((0 ≤ i ∧ i ≤ 1) ∧ sI (m0 S) 122 (cN i) = 0 ∧ v = some (.int (-5)) ∧ S' = m0 S) ∨ (¬ (0 ≤ i ∧ i ≤ 1) ∧ v = some (.int (-2)) ∧ S' = m0 S))) := by
      intro m
      induction m with
      | zero =>
        intro k hk S1 hE hV
        have hm1 := hm0.eq hE
        have hkN : k = 1084 := by omega
        rw [hkN] at hV ⊢
        refine x_iload_n 33 2 (ab_dd tk_m_restore 20 rfl) rfl rfl rfl ?_
        refine x_sipush 36 1084 (ab_dd tk_m_restore 21 rfl) rfl (by decide) (x_topn 1084 rfl ?_)
        refine x_icmp_ge_t 65 (ab_dd tk_m_restore 22 rfl) (by decide) ((nI_leI (a := 1084) (b := 1084) (by omega) (by omega)).mpr (show 1084 ≤ 1084 by omega)) ?_
        refine x_aload_n 66 0 (ab_dd tk_m_restore 39 rfl) rfl rfl rfl ?_
        refine t_getP 69 121 (ab_dd tk_m_restore 40 rfl) rfl F_m_13 (by decide) (Nat.lt_of_lt_of_le (by decide) hm1.1) (hm1.2.1 0 (by decide)) rfl (hm1.2.2 1 (by decide)) ?_
        refine x_bipush 71 42 (ab_dd tk_m_restore 41 rfl) rfl (by decide) (x_topn 42 rfl ?_)
        refine x_iconst 72 0 (ab_dd tk_m_restore 42 rfl) rfl (by decide) (x_topn 0 rfl ?_)
        refine t_iast 73 42 (ab_dd tk_m_restore 43 rfl) rfl (by decide) (Nat.lt_of_lt_of_le (by decide) hm1.1) (hm1.2.1 1 (by decide)) rfl (by decide) (by decide) ?_
        refine x_iconst 74 0 (ab_dd tk_m_restore 44 rfl) rfl (by decide) (x_topn 0 rfl ?_)
        exact x_iret (ab_dd tk_m_restore 45 rfl) ⟨_, rfl, hE.pI (by decide), Or.inl ⟨hz, by rw [ec]; exact hq0, rfl, by
          funext j
          rw [ec]
          show up2 (sI S1) 121 42 _ 121 j = _
          unfold mRes
          by_cases h : j = 42
          · subst h; rw [up2_s, if_pos rfl] <;> rfl
          · rw [up2_k h, hV j, if_neg h]
            by_cases h1 : j < 1084
            · rw [if_pos ⟨by omega, by omega⟩, if_pos h1] <;> rfl
            · rw [if_neg (by omega), if_neg h1]⟩⟩
      | succ m ih =>
        intro k hk S1 hE hV
        have hm1 := hm0.eq hE
        refine x_iload_n 33 2 (ab_dd tk_m_restore 20 rfl) rfl rfl rfl ?_
        refine x_sipush 36 1084 (ab_dd tk_m_restore 21 rfl) rfl (by decide) (x_topn 1084 rfl ?_)
        refine x_icmp_ge_f 39 (ab_dd tk_m_restore 22 rfl) rfl 65 (by decide) (fun z => absurd ((nI_leI (a := 1084) (b := k) (by omega) (by omega)).mp z) (show ¬ (1084 ≤ k) by omega)) ?_
        refine x_aload_n 40 0 (ab_dd tk_m_restore 23 rfl) rfl rfl rfl ?_
        refine t_getP 43 121 (ab_dd tk_m_restore 24 rfl) rfl F_m_13 (by decide) (Nat.lt_of_lt_of_le (by decide) hm1.1) (hm1.2.1 0 (by decide)) rfl (hm1.2.2 1 (by decide)) ?_
        refine x_iload_n 44 2 (ab_dd tk_m_restore 25 rfl) rfl rfl rfl ?_
        refine x_aload_n 45 0 (ab_dd tk_m_restore 26 rfl) rfl rfl rfl ?_
        refine t_getP 48 121 (ab_dd tk_m_restore 27 rfl) rfl F_m_13 (by decide) (Nat.lt_of_lt_of_le (by decide) hm1.1) (hm1.2.1 0 (by decide)) rfl (hm1.2.2 1 (by decide)) ?_
        refine x_sipush 51 1084 (ab_dd tk_m_restore 28 rfl) rfl (by decide) (x_topn 1084 rfl ?_)
        refine x_iload_n 52 1 (ab_dd tk_m_restore 29 rfl) rfl rfl rfl ?_
        refine x_iconst 53 1 (ab_dd tk_m_restore 30 rfl) rfl (by decide) (x_topn 1 rfl ?_)
        refine x_iadd 54 (ab_dd tk_m_restore 31 rfl) rfl (x_topn (q + 1) (nI_add _ _) ?_)
        refine x_imul 55 (ab_dd tk_m_restore 32 rfl) rfl (x_topn (1084 * (q + 1)) (pk_mul _ _) ?_)
        refine x_iload_n 56 2 (ab_dd tk_m_restore 33 rfl) rfl rfl rfl ?_
        refine x_iadd 57 (ab_dd tk_m_restore 34 rfl) rfl (x_topn ((1084 * (q + 1)) + k) (nI_add _ _) ?_)
        refine t_iald 58 ((1084 * (q + 1)) + k) (ab_dd tk_m_restore 35 rfl) rfl (by decide) (Nat.lt_of_lt_of_le (by decide) hm1.1) (hm1.2.1 1 (by decide)) rfl (by omega) (by decide) ?_
        refine t_iast 59 k (ab_dd tk_m_restore 36 rfl) rfl (by decide) (Nat.lt_of_lt_of_le (by decide) hm1.1) (hm1.2.1 1 (by decide)) rfl (by omega) (by decide) ?_
        refine xn_iinc 62 2 (fun y => [some (.ref 120), some (.int (nI q)), some (.int y)]) (k + 1) (ab_dd tk_m_restore 37 rfl) rfl (by decide) rfl (fun _ => rfl) (iinc_p 1) ?_
        refine x_goto 32 (ab_dd tk_m_restore 38 rfl) (by decide) ?_
        refine ih (k + 1) (by omega) _ ?_ ?_
        · exact hE.pI (by decide)
        · intro i
          show up2 (sI S1) 121 (k) _ 121 i = _
          by_cases hi : i = k
          · rw [hi, up2_s, if_pos ⟨by omega, by omega⟩, show k - 0 = k by omega]
            rw [hV, if_neg (by omega)]
          · rw [up2_k hi, hV i]
            by_cases h1 : 0 ≤ i ∧ i < 0 + k
            · rw [if_pos h1, if_pos ⟨h1.1, by omega⟩]
            · rw [if_neg h1, if_neg (fun z => h1 ⟨z.1, by omega⟩)]
    exact loop 1084 0 rfl _ sEq.rf (fun j => by rw [if_neg (by omega)])
  refine x_enter [some (.ref 120), some (.int i), none] (by decide) (Nat.le_of_ble_eq_true rfl) rfl (fun v w' h => by obtain ⟨S', rfl, -, h⟩ := h; rcases h with ⟨-, -, rfl, -⟩ | ⟨-, -, rfl, -⟩ | ⟨-, rfl, -⟩ <;> rfl) ?_
  refine x_aload_n 1 0 (ab_dd tk_m_restore 0 rfl) rfl rfl rfl ?_
  refine x_iconst 2 0 (ab_dd tk_m_restore 1 rfl) rfl (by decide) (x_topn 0 rfl ?_)
  refine t_putI 5 (ab_dd tk_m_restore 2 rfl) rfl F_m_1 (by decide) (Nat.lt_of_lt_of_le (by decide) hm0.1) (hm0.2.1 0 (by decide)) rfl rfl rfl ?_
  refine x_iload_n 6 1 (ab_dd tk_m_restore 3 rfl) rfl rfl rfl ?_
  refine x_i2l 7 (ab_dd tk_m_restore 4 rfl) rfl ?_
  refine x_lconst 8 0 (ab_dd tk_m_restore 5 rfl) rfl (by decide) ?_
  refine x_lconst 9 1 (ab_dd tk_m_restore 6 rfl) rfl (by decide) ?_
  refine x_callS 12 M_m_within 0 3 [_, _, _] (ab_dd tk_m_restore 7 rfl) rfl (by decide) K_m_within T_m_within L_m_159 rfl (Nat.le_of_ble_eq_true rfl) (w_inI 0 1 rfl rfl _) (fun v1 w1 h1 => ?_)
  obtain ⟨rfl, rfl⟩ := h1
  refine xb_if_ne 15 18 (ab_dd tk_m_restore 8 rfl) rfl (by decide) (fun h12 => ?_) (fun h12 => ?_)
  · obtain ⟨q, hq, ei, ec⟩ := in_get (n := 1) (by decide) h12
    refine x_aload_n 19 0 (ab_dd tk_m_restore 11 rfl) rfl rfl rfl ?_
    refine t_getP 22 122 (ab_dd tk_m_restore 12 rfl) rfl F_m_17 (by decide) (Nat.lt_of_lt_of_le (by decide) hm0.1) (hm0.2.1 0 (by decide)) rfl (hm0.2.2 2 (by decide)) ?_
    refine x_iload_n 23 1 (ab_dd tk_m_restore 13 rfl) rfl rfl rfl ?_
    refine t_zald 24 q (ab_dd tk_m_restore 14 rfl) rfl (by decide) (Nat.lt_of_lt_of_le (by decide) hm0.1) (hm0.2.1 2 (by decide)) ei (by omega) (by decide) ?_
    refine x_if_ne 27 30 (ab_dd tk_m_restore 15 rfl) rfl (by decide) (fun h24 => ?_) (fun h24 => ?_)
    · refine x_iconst 31 0 (ab_dd tk_m_restore 18 rfl) rfl (by decide) (x_topn 0 rfl ?_)
      refine x_istore_n 32 [some (.ref 120), some (.int i), some (.int (nI 0))] 2 (ab_dd tk_m_restore 19 rfl) rfl rfl (by decide) rfl ?_
      rw [show some (Value.int i) = some (Value.int (nI q)) by rw [ei]]
      exact go q hq ei ec h24
    · refine x_bipush 29 (-5) (ab_dd tk_m_restore 16 rfl) rfl (by decide) ?_
      exact x_iret (ab_dd tk_m_restore 17 rfl) ⟨_, rfl, sEq.rf, Or.inr (Or.inl ⟨h12, by rw [ec]; exact h24, rfl, rfl⟩)⟩
  · refine x_bipush 17 (-2) (ab_dd tk_m_restore 9 rfl) rfl (by decide) ?_
    exact x_iret (ab_dd tk_m_restore 10 rfl) ⟨_, rfl, sEq.rf, Or.inr (Or.inr ⟨h12, rfl, rfl⟩)⟩
/-- the first n of tray q are 0 -/
def mZer (f : Nat → Int64) (q n : Nat) : Nat → Int64 := fun j => if 40 * q ≤ j ∧ j < 40 * q + n then 0 else f j
def tb_m_numbers : List (Nat × Instr × Nat) := [(0, .aload_n 0, 1), (1, .iconst 0, 1), (2, .putfield 1, 3), (5, .iload_n 1, 1), (6, .i2l, 1), (7, .lconst 0, 1), (8, .ldc2_w 303, 3), (11, .invokestatic 159, 3), (14, .ifCond .eq 15, 3), (17, .iload_n 2, 1), (18, .i2l, 1), (19, .lconst 0, 1), (20, .ldc2_w 303, 3), (23, .invokestatic 159, 3), (26, .ifCond .ne 6, 3), (29, .bipush (-2), 2), (31, .ireturn, 1), (32, .iload_n 3, 1), (33, .i2l, 1), (34, .lconst 0, 1), (35, .ldc2_w 344, 3), (38, .invokestatic 159, 3), (41, .ifCond .ne 6, 3), (44, .bipush (-3), 2), (46, .ireturn, 1), (47, .aload_n 0, 1), (48, .getfield 84, 3), (51, .iload_n 1, 1), (52, .iload_n 2, 1), (53, .iastore, 1), (54, .aload_n 0, 1), (55, .getfield 87, 3), (58, .iload_n 1, 1), (59, .iload_n 3, 1), (60, .iastore, 1), (61, .iconst 0, 1), (62, .istore 4, 2), (64, .iload 4, 2), (66, .iload_n 3, 1), (67, .if_icmp .ge 22, 3), (70, .aload_n 0, 1), (71, .getfield 90, 3), (74, .bipush 40, 2), (76, .iload_n 1, 1), (77, .imul, 1), (78, .iload 4, 2), (80, .iadd, 1), (81, .lconst 0, 1), (82, .lastore, 1), (83, .iinc 4 1, 3), (86, .goto (-22), 3), (89, .iconst 0, 1), (90, .ireturn, 1)]
theorem tk_m_numbers : ∀ q ∈ tb_m_numbers, decode M_m_numbers.2.1 q.1 = .ok q.2 := by decide +kernel
theorem c_m_numbers {G : ab_G} {S : ab_S} (hm : mSh S) (t s n : Int32) : ab_C G 1 M_m_numbers [.ref 120, .int t, .int s, .int n] (sw S) (fun v w' => ∃ S', w' = sw S' ∧ sEq [142, 143, 144] (m0 S) S' ∧ ((((0 ≤ t ∧ t ≤ 3) ∧ (0 ≤ s ∧ s ≤ 3)) ∧ (0 ≤ n ∧ n ≤ 40) ∧ v = some (.int 0) ∧ sI S' 142 = up1 (sI S 142) (cN t) s ∧ sI S' 143 = up1 (sI S 143) (cN t) n ∧ sJ S' 144 = mZer (sJ S 144) (cN t) (cN n)) ∨ (((0 ≤ t ∧ t ≤ 3) ∧ (0 ≤ s ∧ s ≤ 3)) ∧ ¬ (0 ≤ n ∧ n ≤ 40) ∧ v = some (.int (-3)) ∧ S' = m0 S) ∨ (¬ ((0 ≤ t ∧ t ≤ 3) ∧ (0 ≤ s ∧ s ≤ 3)) ∧ v = some (.int (-2)) ∧ S' = m0 S))) := by
  have hm0 : mSh (m0 S) := hm
  have go : ∀ q c : Nat, q ≤ 3 → t = nI q → cN t = q → c ≤ 40 → n = nI c → cN n = c → ((0 ≤ t ∧ t ≤ 3) ∧ (0 ≤ s ∧ s ≤ 3)) → (0 ≤ n ∧ n ≤ 40) → ab_Ex G 1 M_m_numbers 64 [some (.ref 120), some (.int (nI q)), some (.int s), some (.int (nI c)), some (.int (nI 0))] [] (sw (pI (pI (m0 S) 142 q s) 143 q (nI c))) (fun v w' => ∃ S', w' = sw S' ∧ sEq [142, 143, 144] (m0 S) S' ∧ ((((0 ≤ t ∧ t ≤ 3) ∧ (0 ≤ s ∧ s ≤ 3)) ∧ (0 ≤ n ∧ n ≤ 40) ∧ v = some (.int 0) ∧ sI S' 142 = up1 (sI S 142) (cN t) s ∧ sI S' 143 = up1 (sI S 143) (cN t) n ∧ sJ S' 144 = mZer (sJ S 144) (cN t) (cN n)) ∨ (((0 ≤ t ∧ t ≤ 3) ∧ (0 ≤ s ∧ s ≤ 3)) ∧ ¬ (0 ≤ n ∧ n ≤ 40) ∧ v = some (.int (-3)) ∧ S' = m0 S) ∨ (¬ ((0 ≤ t ∧ t ≤ 3) ∧ (0 ≤ s ∧ s ≤ 3)) ∧ v = some (.int (-2)) ∧ S' = m0 S))) := by
    intro q c hq et eq hc en ec hz1 hz2
    have hm2 : mSh (pI (pI (m0 S) 142 q s) 143 q (nI c)) := hm
    have loop : ∀ (m k : Nat), k + m = c → ∀ S1 : ab_S, sEq [144] (pI (pI (m0 S) 142 q s) 143 q (nI c)) S1 → (∀ i, sJ S1 144 i = if (40 * q) ≤ i ∧ i < (40 * q) + k then (fun _ => 0) (i - (40 * q)) else sJ (pI (pI (m0 S) 142 q s) 143 q (nI c)) 144 i) → ab_Ex G 1 M_m_numbers 64 [some (.ref 120), some (.int (nI q)), some (.int s), some (.int (nI c)), some (.int (nI k))] [] (sw S1) (fun v w' => ∃ S', w' = sw S' ∧ sEq [142, 143, 144] (m0 S) S' ∧ ((((0 ≤ t ∧ t ≤ 3) ∧ (0 ≤ s ∧ s ≤ 3)) ∧ (0 ≤ n ∧ n ≤ 40) ∧ v = some (.int 0) ∧ sI S' 142 = up1 (sI S 142) (cN t) s ∧ sI S' 143 = up1 (sI S 143) (cN t) n ∧ sJ S' 144 = mZer (sJ S 144) (cN t) (cN n)) ∨ (((0 ≤ t ∧ t ≤ 3) ∧ (0 ≤ s ∧ s ≤ 3)) ∧ ¬ (0 ≤ n ∧ n ≤ 40) ∧ v = some (.int (-3)) ∧ S' = m0 S) ∨ (¬ ((0 ≤ t ∧ t ≤ 3) ∧ (0 ≤ s ∧ s ≤ 3)) ∧ v = some (.int (-2)) ∧ S' = m0 S))) := by
      intro m
      induction m with
      | zero =>
        intro k hk S1 hE hV
        have hm1 := hm2.eq hE
        have hkN : k = c := by omega
        rw [hkN] at hV ⊢
        refine x_iload 66 4 (ab_dd tk_m_numbers 37 rfl) rfl rfl ?_
        refine x_iload_n 67 3 (ab_dd tk_m_numbers 38 rfl) rfl rfl rfl ?_
        refine x_icmp_ge_t 89 (ab_dd tk_m_numbers 39 rfl) (by decide) ((nI_leI (a := c) (b := c) (by omega) (by omega)).mpr (show c ≤ c by omega)) ?_
        refine x_iconst 90 0 (ab_dd tk_m_numbers 51 rfl) rfl (by decide) (x_topn 0 rfl ?_)
        exact x_iret (ab_dd tk_m_numbers 52 rfl) ⟨_, rfl, (((sEq.rf.pI (by decide)).pI (by decide)).tr (hE.mono (by decide))), Or.inl ⟨hz1, hz2, rfl, by
          rw [eq, hE.2.2.1 142 (by decide)]
          funext j
          show up2 (sI (m0 S)) 142 q s 142 j = _
          by_cases h : j = q
          · subst h; rw [up2_s, up1_s]
          · rw [up2_k h, up1_o h] <;> rfl, by
          rw [eq, en, hE.2.2.1 143 (by decide)]
          funext j
          show up2 (sI (m0 S)) 143 q (nI c) 143 j = _
          by_cases h : j = q
          · subst h; rw [up2_s, up1_s]
          · rw [up2_k h, up1_o h] <;> rfl, by
          rw [eq, ec]
          funext j
          rw [hV j]
          rfl⟩⟩
      | succ m ih =>
        intro k hk S1 hE hV
        have hm1 := hm2.eq hE
        refine x_iload 66 4 (ab_dd tk_m_numbers 37 rfl) rfl rfl ?_
        refine x_iload_n 67 3 (ab_dd tk_m_numbers 38 rfl) rfl rfl rfl ?_
        refine x_icmp_ge_f 70 (ab_dd tk_m_numbers 39 rfl) rfl 89 (by decide) (fun z => absurd ((nI_leI (a := c) (b := k) (by omega) (by omega)).mp z) (show ¬ (c ≤ k) by omega)) ?_
        refine x_aload_n 71 0 (ab_dd tk_m_numbers 40 rfl) rfl rfl rfl ?_
        refine t_getP 74 144 (ab_dd tk_m_numbers 41 rfl) rfl F_m_90 (by decide) (Nat.lt_of_lt_of_le (by decide) hm1.1) (hm1.2.1 0 (by decide)) rfl (hm1.2.2 44 (by decide)) ?_
        refine x_bipush 76 40 (ab_dd tk_m_numbers 42 rfl) rfl (by decide) (x_topn 40 rfl ?_)
        refine x_iload_n 77 1 (ab_dd tk_m_numbers 43 rfl) rfl rfl rfl ?_
        refine x_imul 78 (ab_dd tk_m_numbers 44 rfl) rfl (x_topn (40 * q) (pk_mul _ _) ?_)
        refine x_iload 80 4 (ab_dd tk_m_numbers 45 rfl) rfl rfl ?_
        refine x_iadd 81 (ab_dd tk_m_numbers 46 rfl) rfl (x_topn ((40 * q) + k) (nI_add _ _) ?_)
        refine x_lconst 82 0 (ab_dd tk_m_numbers 47 rfl) rfl (by decide) ?_
        refine t_last 83 ((40 * q) + k) (ab_dd tk_m_numbers 48 rfl) rfl (by decide) (Nat.lt_of_lt_of_le (by decide) hm1.1) (hm1.2.1 24 (by decide)) rfl (by omega) (by decide) ?_
        refine xn_iinc 86 4 (fun y => [some (.ref 120), some (.int (nI q)), some (.int s), some (.int (nI c)), some (.int y)]) (k + 1) (ab_dd tk_m_numbers 49 rfl) rfl (by decide) rfl (fun _ => rfl) (iinc_p 1) ?_
        refine x_goto 64 (ab_dd tk_m_numbers 50 rfl) (by decide) ?_
        refine ih (k + 1) (by omega) _ ?_ ?_
        · exact hE.pJ (by decide)
        · intro i
          show up2 (sJ S1) 144 ((40 * q) + k) _ 144 i = _
          by_cases hi : i = (40 * q) + k
          · rw [hi, up2_s, if_pos ⟨by omega, by omega⟩, show (40 * q) + k - (40 * q) = k by omega]
          · rw [up2_k hi, hV i]
            by_cases h1 : (40 * q) ≤ i ∧ i < (40 * q) + k
            · rw [if_pos h1, if_pos ⟨h1.1, by omega⟩]
            · rw [if_neg h1, if_neg (fun z => h1 ⟨z.1, by omega⟩)]
    exact loop c 0 (by omega) _ sEq.rf (fun j => by rw [if_neg (by omega)])
  refine x_enter [some (.ref 120), some (.int t), some (.int s), some (.int n), none] (by decide) (Nat.le_of_ble_eq_true rfl) rfl (fun v w' h => by obtain ⟨S', rfl, -, h⟩ := h; rcases h with ⟨-, -, rfl, -⟩ | ⟨-, -, rfl, -⟩ | ⟨-, rfl, -⟩ <;> rfl) ?_
  refine x_aload_n 1 0 (ab_dd tk_m_numbers 0 rfl) rfl rfl rfl ?_
  refine x_iconst 2 0 (ab_dd tk_m_numbers 1 rfl) rfl (by decide) (x_topn 0 rfl ?_)
  refine t_putI 5 (ab_dd tk_m_numbers 2 rfl) rfl F_m_1 (by decide) (Nat.lt_of_lt_of_le (by decide) hm0.1) (hm0.2.1 0 (by decide)) rfl rfl rfl ?_
  refine x_iload_n 6 1 (ab_dd tk_m_numbers 3 rfl) rfl rfl rfl ?_
  refine x_i2l 7 (ab_dd tk_m_numbers 4 rfl) rfl ?_
  refine x_lconst 8 0 (ab_dd tk_m_numbers 5 rfl) rfl (by decide) ?_
  refine x_ldc2 11 (ab_dd tk_m_numbers 6 rfl) rfl C_m_303 ?_
  refine x_callS 14 M_m_within 0 3 [_, _, _] (ab_dd tk_m_numbers 7 rfl) rfl (by decide) K_m_within T_m_within L_m_159 rfl (Nat.le_of_ble_eq_true rfl) (w_inI 0 3 rfl rfl _) (fun v1 w1 h1 => ?_)
  obtain ⟨rfl, rfl⟩ := h1
  refine xb_if_eq 17 29 (ab_dd tk_m_numbers 8 rfl) rfl (by decide) (fun h14 => ?_) (fun h14 => ?_)
  · refine x_bipush 31 (-2) (ab_dd tk_m_numbers 15 rfl) rfl (by decide) ?_
    exact x_iret (ab_dd tk_m_numbers 16 rfl) ⟨_, rfl, sEq.rf, Or.inr (Or.inr ⟨fun z => h14 z.1, rfl, rfl⟩)⟩
  · refine x_iload_n 18 2 (ab_dd tk_m_numbers 9 rfl) rfl rfl rfl ?_
    refine x_i2l 19 (ab_dd tk_m_numbers 10 rfl) rfl ?_
    refine x_lconst 20 0 (ab_dd tk_m_numbers 11 rfl) rfl (by decide) ?_
    refine x_ldc2 23 (ab_dd tk_m_numbers 12 rfl) rfl C_m_303 ?_
    refine x_callS 26 M_m_within 0 3 [_, _, _] (ab_dd tk_m_numbers 13 rfl) rfl (by decide) K_m_within T_m_within L_m_159 rfl (Nat.le_of_ble_eq_true rfl) (w_inI 0 3 rfl rfl _) (fun v1 w1 h1 => ?_)
    obtain ⟨rfl, rfl⟩ := h1
    refine xb_if_ne 29 32 (ab_dd tk_m_numbers 14 rfl) rfl (by decide) (fun h26 => ?_) (fun h26 => ?_)
    · refine x_iload_n 33 3 (ab_dd tk_m_numbers 17 rfl) rfl rfl rfl ?_
      refine x_i2l 34 (ab_dd tk_m_numbers 18 rfl) rfl ?_
      refine x_lconst 35 0 (ab_dd tk_m_numbers 19 rfl) rfl (by decide) ?_
      refine x_ldc2 38 (ab_dd tk_m_numbers 20 rfl) rfl C_m_344 ?_
      refine x_callS 41 M_m_within 0 3 [_, _, _] (ab_dd tk_m_numbers 21 rfl) rfl (by decide) K_m_within T_m_within L_m_159 rfl (Nat.le_of_ble_eq_true rfl) (w_inI 0 40 rfl rfl _) (fun v1 w1 h1 => ?_)
      obtain ⟨rfl, rfl⟩ := h1
      refine xb_if_ne 44 47 (ab_dd tk_m_numbers 22 rfl) rfl (by decide) (fun h41 => ?_) (fun h41 => ?_)
      · obtain ⟨q, hq, et, eq⟩ := in_get (n := 3) (by decide) h14
        obtain ⟨c, hc, en, ec⟩ := in_get (n := 40) (by decide) h41
        have go1 := go q c hq et eq hc en ec ⟨h14, h26⟩ h41
        rw [show some (Value.int t) = some (Value.int (nI q)) by rw [et], show some (Value.int n) = some (Value.int (nI c)) by rw [en]]
        refine x_aload_n 48 0 (ab_dd tk_m_numbers 25 rfl) rfl rfl rfl ?_
        refine t_getP 51 142 (ab_dd tk_m_numbers 26 rfl) rfl F_m_84 (by decide) (Nat.lt_of_lt_of_le (by decide) hm0.1) (hm0.2.1 0 (by decide)) rfl (hm0.2.2 42 (by decide)) ?_
        refine x_iload_n 52 1 (ab_dd tk_m_numbers 27 rfl) rfl rfl rfl ?_
        refine x_iload_n 53 2 (ab_dd tk_m_numbers 28 rfl) rfl rfl rfl ?_
        refine t_iast 54 q (ab_dd tk_m_numbers 29 rfl) rfl (by decide) (Nat.lt_of_lt_of_le (by decide) hm0.1) (hm0.2.1 22 (by decide)) rfl (by omega) (by decide) ?_
        refine x_aload_n 55 0 (ab_dd tk_m_numbers 30 rfl) rfl rfl rfl ?_
        refine t_getP 58 143 (ab_dd tk_m_numbers 31 rfl) rfl F_m_87 (by decide) (Nat.lt_of_lt_of_le (by decide) hm0.1) (hm0.2.1 0 (by decide)) rfl (hm0.2.2 43 (by decide)) ?_
        refine x_iload_n 59 1 (ab_dd tk_m_numbers 32 rfl) rfl rfl rfl ?_
        refine x_iload_n 60 3 (ab_dd tk_m_numbers 33 rfl) rfl rfl rfl ?_
        refine t_iast 61 q (ab_dd tk_m_numbers 34 rfl) rfl (by decide) (Nat.lt_of_lt_of_le (by decide) hm0.1) (hm0.2.1 23 (by decide)) rfl (by omega) (by decide) ?_
        refine x_iconst 62 0 (ab_dd tk_m_numbers 35 rfl) rfl (by decide) (x_topn 0 rfl ?_)
        refine x_istore 64 [some (.ref 120), some (.int (nI q)), some (.int s), some (.int (nI c)), some (.int (nI 0))] 4 (ab_dd tk_m_numbers 36 rfl) rfl (by decide) rfl ?_
        exact go1
      · refine x_bipush 46 (-3) (ab_dd tk_m_numbers 23 rfl) rfl (by decide) ?_
        exact x_iret (ab_dd tk_m_numbers 24 rfl) ⟨_, rfl, sEq.rf, Or.inr (Or.inl ⟨⟨h14, h26⟩, h41, rfl, rfl⟩)⟩
    · refine x_bipush 31 (-2) (ab_dd tk_m_numbers 15 rfl) rfl (by decide) ?_
      exact x_iret (ab_dd tk_m_numbers 16 rfl) ⟨_, rfl, sEq.rf, Or.inr (Or.inr ⟨fun z => h26 z.2, rfl, rfl⟩)⟩
def mTr (S : ab_S) : Prop := (∀ q, q < 4 → ∃ c : Nat, sI S 143 q = nI c ∧ c ≤ 40)
theorem nt_0 {S : ab_S} {t : Int32} (h : mNt S t = 0) : (0 ≤ t ∧ t ≤ 3) ∧ ¬ sI S 142 (cN t) = -1 := by
  unfold mNt at h
  by_cases h1 : 0 ≤ t ∧ t ≤ 3
  · rw [if_pos h1] at h
    by_cases h2 : sI S 142 (cN t) = -1
    · rw [if_pos h2] at h; exact absurd h (by decide)
    · exact ⟨h1, h2⟩
  · rw [if_neg h1] at h; exact absurd h (by decide)
theorem sub1_N {c : Nat} (hc : c ≤ 40) (x : Int32) : ((0 : Int64) ≤ x.toInt64 ∧ x.toInt64 ≤ (nI c - 1).toInt64) ↔ (0 ≤ x ∧ cN x < c) := by
  rw [show (0 : Int64) = (0 : Int32).toInt64 from rfl, toI64_le, toI64_le, Int32.le_iff_toInt_le, Int32.le_iff_toInt_le, show (nI c - 1).toInt = (c : Int) - 1 from pk_sub_toInt (b := 1) (by omega) (by decide)]
  constructor
  · intro h
    obtain ⟨j, hj, e⟩ := nI_of (x := x) (Int32.not_lt.mpr (Int32.le_iff_toInt_le.mpr h.1))
    have h2 := h.2
    rw [e, nI_toInt hj] at h2
    exact ⟨h.1, by rw [e, cN_nI hj]; omega⟩
  · intro h
    obtain ⟨j, hj, e⟩ := nI_of (x := x) (Int32.not_lt.mpr (Int32.le_iff_toInt_le.mpr h.1))
    have h2 := h.2
    rw [e, cN_nI hj] at h2
    exact ⟨h.1, by rw [e, nI_toInt hj]; omega⟩
theorem in_lt {x : Int32} {n : Nat} (h : 0 ≤ x ∧ cN x < n) (hn : n < 2 ^ 31) : ∃ q, q < n ∧ x = nI q ∧ cN x = q := by
  obtain ⟨j, hj, e⟩ := nI_of (x := x) (Int32.not_lt.mpr h.1)
  exact ⟨j, by have := h.2; rw [e, cN_nI hj] at this; exact this, e, by rw [e, cN_nI hj]⟩
theorem w_inC {G : ab_G} {S : ab_S} {c : Nat} (hc : c ≤ 40) (x : Int32) : ab_C G 0 M_m_within [.long x.toInt64, .long 0, .long (nI c - 1).toInt64] (sw S) (fun v w' => v = some (.int (if 0 ≤ x ∧ cN x < c then 1 else 0)) ∧ w' = sw S) :=
  (c_m_within x.toInt64 0 (nI c - 1).toInt64 (sw S)).mono (fun v w' h => ⟨by rw [h.1]; simp only [sub1_N hc x], h.2⟩)
def tb_m_write : List (Nat × Instr × Nat) := [(0, .aload_n 0, 1), (1, .iconst 0, 1), (2, .putfield 1, 3), (5, .aload_n 0, 1), (6, .iload_n 1, 1), (7, .invokevirtual 325, 3), (10, .istore 5, 2), (12, .iload 5, 2), (14, .ifCond .eq 7, 3), (17, .iload 5, 2), (19, .i2l, 1), (20, .lreturn, 1), (21, .iload_n 2, 1), (22, .i2l, 1), (23, .lconst 0, 1), (24, .aload_n 0, 1), (25, .getfield 87, 3), (28, .iload_n 1, 1), (29, .iaload, 1), (30, .iconst 1, 1), (31, .isub, 1), (32, .i2l, 1), (33, .invokestatic 159, 3), (36, .ifCond .ne 7, 3), (39, .ldc2_w 473, 3), (42, .lreturn, 1), (43, .aload_n 0, 1), (44, .getfield 90, 3), (47, .bipush 40, 2), (49, .iload_n 1, 1), (50, .imul, 1), (51, .iload_n 2, 1), (52, .iadd, 1), (53, .lload_n 3, 1), (54, .aload_n 0, 1), (55, .getfield 84, 3), (58, .iload_n 1, 1), (59, .iaload, 1), (60, .invokestatic 475, 3), (63, .lastore, 1), (64, .aload_n 0, 1), (65, .getfield 90, 3), (68, .bipush 40, 2), (70, .iload_n 1, 1), (71, .imul, 1), (72, .iload_n 2, 1), (73, .iadd, 1), (74, .laload, 1), (75, .lreturn, 1)]
theorem tk_m_write : ∀ q ∈ tb_m_write, decode M_m_write.2.1 q.1 = .ok q.2 := by decide +kernel
theorem c_m_write {G : ab_G} {S : ab_S} (hm : mSh S) (ht : mTr S) (t i : Int32) (v : Int64) : ab_C G 2 M_m_write [.ref 120, .int t, .int i, .long v] (sw S) (fun r w' => ∃ S', w' = sw S' ∧ sEq [144] (m0 S) S' ∧ ((mNt S t = 0 ∧ (0 ≤ i ∧ cN i < cN (sI S 143 (cN t))) ∧ r = some (.long (mCut v (sI S 142 (cN t)))) ∧ sJ S' 144 = up1 (sJ S 144) (40 * cN t + cN i) (mCut v (sI S 142 (cN t)))) ∨ (mNt S t = 0 ∧ ¬ (0 ≤ i ∧ cN i < cN (sI S 143 (cN t))) ∧ r = some (.long (-7)) ∧ S' = m0 S) ∨ (¬ mNt S t = 0 ∧ r = some (.long (mNt S t).toInt64) ∧ S' = m0 S))) := by
  refine x_enter [some (.ref 120), some (.int t), some (.int i), some (.long v), none, none] (by decide) (Nat.le_of_ble_eq_true rfl) rfl (fun v w' h => by obtain ⟨S', rfl, -, h⟩ := h; rcases h with ⟨-, -, rfl, -⟩ | ⟨-, -, rfl, -⟩ | ⟨-, rfl, -⟩ <;> trivial) ?_
  have hm0 : mSh (m0 S) := hm
  refine x_aload_n 1 0 (ab_dd tk_m_write 0 rfl) rfl rfl rfl ?_
  refine x_iconst 2 0 (ab_dd tk_m_write 1 rfl) rfl (by decide) (x_topn 0 rfl ?_)
  refine t_putI 5 (ab_dd tk_m_write 2 rfl) rfl F_m_1 (by decide) (Nat.lt_of_lt_of_le (by decide) hm0.1) (hm0.2.1 0 (by decide)) rfl rfl rfl ?_
  refine x_aload_n 6 0 (ab_dd tk_m_write 3 rfl) rfl rfl rfl ?_
  refine x_iload_n 7 1 (ab_dd tk_m_write 4 rfl) rfl rfl rfl ?_
  refine t_callV 10 M_m_noTray 1 1 [_] (ab_dd tk_m_write 5 rfl) rfl (by decide) K_m_noTray V_m_noTray.1 V_m_noTray.2 L_m_325 rfl (Nat.le_of_ble_eq_true rfl) (by decide) (Nat.lt_of_lt_of_le (by decide) hm0.1) (hm0.2.1 0 (by decide)) rfl (c_m_noTray hm0 t) (fun v1 w1 h1 => ?_)
  obtain ⟨rfl, rfl⟩ := h1
  refine x_topi (fun v1 ev1 => ?_)
  refine x_istore 12 [some (.ref 120), some (.int t), some (.int i), some (.long v), none, some (.int v1)] 5 (ab_dd tk_m_write 6 rfl) rfl (by decide) rfl ?_
  refine x_iload 14 5 (ab_dd tk_m_write 7 rfl) rfl rfl ?_
  refine x_if_eq 17 21 (ab_dd tk_m_write 8 rfl) rfl (by decide) (fun h14 => ?_) (fun h14 => ?_)
  · have h0 : mNt S t = 0 := ev1.symm.trans h14
    obtain ⟨q, hq, et, eq⟩ := in_get (n := 3) (by decide) (nt_0 h0).1
    obtain ⟨c, ec, hc⟩ := ht q (by omega)
    rw [show some (Value.int t) = some (Value.int (nI q)) by rw [et]]
    refine x_iload_n 22 2 (ab_dd tk_m_write 12 rfl) rfl rfl rfl ?_
    refine x_i2l 23 (ab_dd tk_m_write 13 rfl) rfl ?_
    refine x_lconst 24 0 (ab_dd tk_m_write 14 rfl) rfl (by decide) ?_
    refine x_aload_n 25 0 (ab_dd tk_m_write 15 rfl) rfl rfl rfl ?_
    refine t_getP 28 143 (ab_dd tk_m_write 16 rfl) rfl F_m_87 (by decide) (Nat.lt_of_lt_of_le (by decide) hm0.1) (hm0.2.1 0 (by decide)) rfl (hm0.2.2 43 (by decide)) ?_
    refine x_iload_n 29 1 (ab_dd tk_m_write 17 rfl) rfl rfl rfl ?_
    refine t_iald 30 q (ab_dd tk_m_write 18 rfl) rfl (by decide) (Nat.lt_of_lt_of_le (by decide) hm0.1) (hm0.2.1 23 (by decide)) rfl (by omega) (by decide) (x_topn c ec ?_)
    refine x_iconst 31 1 (ab_dd tk_m_write 19 rfl) rfl (by decide) (x_topn 1 rfl ?_)
    refine x_isub 32 (ab_dd tk_m_write 20 rfl) rfl ?_
    refine x_i2l 33 (ab_dd tk_m_write 21 rfl) rfl ?_
    refine x_callS 36 M_m_within 0 3 [_, _, _] (ab_dd tk_m_write 22 rfl) rfl (by decide) K_m_within T_m_within L_m_159 rfl (Nat.le_of_ble_eq_true rfl) (w_inC hc i) (fun v1 w1 h1 => ?_)
    obtain ⟨rfl, rfl⟩ := h1
    refine xb_if_ne 39 43 (ab_dd tk_m_write 23 rfl) rfl (by decide) (fun h36 => ?_) (fun h36 => ?_)
    · obtain ⟨j, hj, ei, ej⟩ := in_lt (n := c) h36 (by omega)
      rw [show some (Value.int i) = some (Value.int (nI j)) by rw [ei]]
      refine x_aload_n 44 0 (ab_dd tk_m_write 26 rfl) rfl rfl rfl ?_
      refine t_getP 47 144 (ab_dd tk_m_write 27 rfl) rfl F_m_90 (by decide) (Nat.lt_of_lt_of_le (by decide) hm0.1) (hm0.2.1 0 (by decide)) rfl (hm0.2.2 44 (by decide)) ?_
      refine x_bipush 49 40 (ab_dd tk_m_write 28 rfl) rfl (by decide) (x_topn 40 rfl ?_)
      refine x_iload_n 50 1 (ab_dd tk_m_write 29 rfl) rfl rfl rfl ?_
      refine x_imul 51 (ab_dd tk_m_write 30 rfl) rfl (x_topn (40 * q) (pk_mul _ _) ?_)
      refine x_iload_n 52 2 (ab_dd tk_m_write 31 rfl) rfl rfl rfl ?_
      refine x_iadd 53 (ab_dd tk_m_write 32 rfl) rfl (x_topn ((40 * q) + j) (nI_add _ _) ?_)
      refine x_lload_n 54 3 (ab_dd tk_m_write 33 rfl) rfl rfl rfl ?_
      refine x_aload_n 55 0 (ab_dd tk_m_write 34 rfl) rfl rfl rfl ?_
      refine t_getP 58 142 (ab_dd tk_m_write 35 rfl) rfl F_m_84 (by decide) (Nat.lt_of_lt_of_le (by decide) hm0.1) (hm0.2.1 0 (by decide)) rfl (hm0.2.2 42 (by decide)) ?_
      refine x_iload_n 59 1 (ab_dd tk_m_write 36 rfl) rfl rfl rfl ?_
      refine t_iald 60 q (ab_dd tk_m_write 37 rfl) rfl (by decide) (Nat.lt_of_lt_of_le (by decide) hm0.1) (hm0.2.1 22 (by decide)) rfl (by omega) (by decide) ?_
      refine x_callS 63 M_m_cut 0 2 [_, _] (ab_dd tk_m_write 38 rfl) rfl (by decide) K_m_cut T_m_cut L_m_475 rfl (Nat.le_of_ble_eq_true rfl) (c_m_cut _ _) (fun v1 w1 h1 => ?_)
      obtain ⟨rfl, rfl⟩ := h1
      refine t_last 64 ((40 * q) + j) (ab_dd tk_m_write 39 rfl) rfl (by decide) (Nat.lt_of_lt_of_le (by decide) hm0.1) (hm0.2.1 24 (by decide)) rfl (by omega) (by decide) ?_
      refine x_aload_n 65 0 (ab_dd tk_m_write 40 rfl) rfl rfl rfl ?_
      refine t_getP 68 144 (ab_dd tk_m_write 41 rfl) rfl F_m_90 (by decide) (Nat.lt_of_lt_of_le (by decide) hm0.1) (hm0.2.1 0 (by decide)) rfl (hm0.2.2 44 (by decide)) ?_
      refine x_bipush 70 40 (ab_dd tk_m_write 42 rfl) rfl (by decide) (x_topn 40 rfl ?_)
      refine x_iload_n 71 1 (ab_dd tk_m_write 43 rfl) rfl rfl rfl ?_
      refine x_imul 72 (ab_dd tk_m_write 44 rfl) rfl (x_topn (40 * q) (pk_mul _ _) ?_)
      refine x_iload_n 73 2 (ab_dd tk_m_write 45 rfl) rfl rfl rfl ?_
      refine x_iadd 74 (ab_dd tk_m_write 46 rfl) rfl (x_topn ((40 * q) + j) (nI_add _ _) ?_)
      refine t_lald 75 ((40 * q) + j) (ab_dd tk_m_write 47 rfl) rfl (by decide) (Nat.lt_of_lt_of_le (by decide) hm0.1) (hm0.2.1 24 (by decide)) rfl (by omega) (by decide) ?_
      exact x_lret (ab_dd tk_m_write 48 rfl) ⟨_, rfl, sEq.rf.pJ (by decide), Or.inl ⟨h0, by rw [eq, ec, cN_nI (by omega)]; exact h36, by
        rw [eq]
        show some (Value.long (up2 (sJ S) 144 (40 * q + j) _ 144 (40 * q + j))) = _
        rw [up2_s]; rfl, by
        rw [eq, ej]
        funext b
        show up2 (sJ S) 144 (40 * q + j) _ 144 b = _
        by_cases h : b = 40 * q + j
        · subst h; rw [up2_s, up1_s] <;> rfl
        · rw [up2_k h, up1_o h]⟩⟩
    · refine x_ldc2 42 (ab_dd tk_m_write 24 rfl) rfl C_m_473 ?_
      exact x_lret (ab_dd tk_m_write 25 rfl) ⟨_, rfl, sEq.rf, Or.inr (Or.inl ⟨h0, by rw [eq, ec, cN_nI (by omega)]; exact h36, rfl, rfl⟩)⟩
  · refine x_iload 19 5 (ab_dd tk_m_write 9 rfl) rfl rfl ?_
    refine x_i2l 20 (ab_dd tk_m_write 10 rfl) rfl ?_
    exact x_lret (ab_dd tk_m_write 11 rfl) ⟨_, rfl, sEq.rf, Or.inr (Or.inr ⟨fun z => h14 (ev1.trans z), by rw [ev1] <;> rfl, rfl⟩)⟩
