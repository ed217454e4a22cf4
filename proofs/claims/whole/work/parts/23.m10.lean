/-! ===== what was, is again, is noted ===== -/
def tb_m_isAgain : List (Nat × Instr × Nat) := [(0, .iconst 0, 1), (1, .istore_n 1, 1), (2, .iload_n 1, 1), (3, .bipush 14, 2), (5, .if_icmp .ge 24, 3), (8, .aload_n 0, 1), (9, .getfield 13, 3), (12, .bipush 28, 2), (14, .iload_n 1, 1), (15, .iadd, 1), (16, .aload_n 0, 1), (17, .getfield 36, 3), (20, .iload_n 1, 1), (21, .iaload, 1), (22, .iastore, 1), (23, .iinc 1 1, 3), (26, .goto (-24), 3), (29, .return_, 1)]
theorem tk_m_isAgain : ∀ q ∈ tb_m_isAgain, decode M_m_isAgain.2.1 q.1 = .ok q.2 := by decide +kernel
theorem c_m_isAgain {G : ab_G} {S : ab_S} (hm : mSh S) : ab_C G 0 M_m_isAgain [.ref 120] (sw S) (fun v w' => v = none ∧ ∃ S', w' = sw S' ∧ sEq [121] S S' ∧ ∀ i, mA S' i = if 28 ≤ i ∧ i < 28 + 14 then sI S 127 (i - 28) else mA S i) := by
  refine x_enter [some (.ref 120), none] (by decide) (Nat.le_of_ble_eq_true rfl) rfl (fun v w' h => by obtain ⟨rfl, -⟩ := h; trivial) ?_
  have loop : ∀ (m k : Nat), k + m = 14 → ∀ S1 : ab_S, sEq [121] S S1 → (∀ i, sI S1 121 i = if 28 ≤ i ∧ i < 28 + k then (fun j => sI S 127 j) (i - 28) else sI S 121 i) → ab_Ex G 0 M_m_isAgain 2 [some (.ref 120), some (.int (nI k))] [] (sw S1) (fun v w' => v = none ∧ ∃ S', w' = sw S' ∧ sEq [121] S S' ∧ ∀ i, mA S' i = if 28 ≤ i ∧ i < 28 + 14 then sI S 127 (i - 28) else mA S i) := by
    intro m
    induction m with
    | zero =>
      intro k hk S1 hE hV
      have hm1 := hm.eq hE
      have hkN : k = 14 := by omega
      rw [hkN] at hV ⊢
      refine x_iload_n 3 1 (ab_dd tk_m_isAgain 2 rfl) rfl rfl rfl ?_
      refine x_bipush 5 14 (ab_dd tk_m_isAgain 3 rfl) rfl (by decide) ?_
      refine x_icmp_ge_t 29 (ab_dd tk_m_isAgain 4 rfl) (by decide) (by decide) ?_
      exact x_vret (ab_dd tk_m_isAgain 17 rfl) ⟨rfl, S1, rfl, hE, hV⟩
    | succ m ih =>
      intro k hk S1 hE hV
      have hm1 := hm.eq hE
      refine x_iload_n 3 1 (ab_dd tk_m_isAgain 2 rfl) rfl rfl rfl ?_
      refine x_bipush 5 14 (ab_dd tk_m_isAgain 3 rfl) rfl (by decide) ?_
      refine x_icmp_ge_f 8 (ab_dd tk_m_isAgain 4 rfl) rfl 29 (by decide) (by rw [show (14 : Int32) = nI 14 from rfl, nI_leI (by decide) (by omega)]; omega) ?_
      refine x_aload_n 9 0 (ab_dd tk_m_isAgain 5 rfl) rfl rfl rfl ?_
      refine t_getP 12 121 (ab_dd tk_m_isAgain 6 rfl) rfl F_m_13 (by decide) (Nat.lt_of_lt_of_le (by decide) hm1.1) (hm1.2.1 0 (by decide)) rfl (hm1.2.2 1 (by decide)) ?_
      refine x_bipush 14 28 (ab_dd tk_m_isAgain 7 rfl) rfl (by decide) ?_
      refine x_iload_n 15 1 (ab_dd tk_m_isAgain 8 rfl) rfl rfl rfl ?_
      refine x_iadd 16 (ab_dd tk_m_isAgain 9 rfl) rfl ?_
      refine x_aload_n 17 0 (ab_dd tk_m_isAgain 10 rfl) rfl rfl rfl ?_
      refine t_getP 20 127 (ab_dd tk_m_isAgain 11 rfl) rfl F_m_36 (by decide) (Nat.lt_of_lt_of_le (by decide) hm1.1) (hm1.2.1 0 (by decide)) rfl (hm1.2.2 18 (by decide)) ?_
      refine x_iload_n 21 1 (ab_dd tk_m_isAgain 12 rfl) rfl rfl rfl ?_
      refine t_iald 22 k (ab_dd tk_m_isAgain 13 rfl) rfl (by decide) (Nat.lt_of_lt_of_le (by decide) hm1.1) (hm1.2.1 7 (by decide)) rfl (by omega) (by decide) ?_
      refine t_iast 23 (28 + k) (ab_dd tk_m_isAgain 14 rfl) rfl (by decide) (Nat.lt_of_lt_of_le (by decide) hm1.1) (hm1.2.1 1 (by decide)) (by rw [show (28 : Int32) = nI 28 from rfl, nI_add]) (by omega) (by decide) ?_
      refine x_iincN 26 1 1 (fun y => [some (.ref 120), some (.int y)]) (ab_dd tk_m_isAgain 15 rfl) rfl (by decide) rfl (by decide) (fun _ => rfl) (fun v1 ev1 => ?_)
      refine x_goto 2 (ab_dd tk_m_isAgain 16 rfl) (by decide) ?_
      have hw : v1 = nI (k + 1) := by rw [ev1, nI_1]
      subst hw
      refine ih (k + 1) (by omega) _ ?_ ?_
      · exact hE.pI (by decide)
      · intro i
        show up2 (sI S1) 121 (28 + k) _ 121 i = _
        by_cases hi : i = 28 + k
        · subst hi
          rw [up2_s, if_pos ⟨by omega, by omega⟩, show 28 + k - 28 = k by omega]
          exact congrFun (hE.2.2.1 127 (by decide)) k
        · rw [up2_k hi, hV i]
          by_cases h1 : 28 ≤ i ∧ i < 28 + k
          · rw [if_pos h1, if_pos ⟨h1.1, by omega⟩]
          · rw [if_neg h1, if_neg (fun z => h1 ⟨z.1, by omega⟩)]
  refine x_iconst 1 0 (ab_dd tk_m_isAgain 0 rfl) rfl (by decide) ?_
  refine x_topi (fun v1 ev1 => ?_)
  refine x_istore_n 2 [some (.ref 120), some (.int v1)] 1 (ab_dd tk_m_isAgain 1 rfl) rfl rfl (by decide) rfl ?_
  subst ev1
  exact loop 14 0 rfl S sEq.rf (fun i => by rw [if_neg (by omega)])
def tb_m_notes : List (Nat × Instr × Nat) := [(0, .aload_n 0, 1), (1, .getfield 13, 3), (4, .bipush 42, 2), (6, .iaload, 1), (7, .bipush 10, 2), (9, .if_icmp .ne 46, 3), (12, .iconst 0, 1), (13, .istore_n 1, 1), (14, .iload_n 1, 1), (15, .bipush 126, 2), (17, .if_icmp .ge 27, 3), (20, .aload_n 0, 1), (21, .getfield 13, 3), (24, .bipush 43, 2), (26, .iload_n 1, 1), (27, .iadd, 1), (28, .aload_n 0, 1), (29, .getfield 13, 3), (32, .bipush 57, 2), (34, .iload_n 1, 1), (35, .iadd, 1), (36, .iaload, 1), (37, .iastore, 1), (38, .iinc 1 1, 3), (41, .goto (-27), 3), (44, .aload_n 0, 1), (45, .getfield 13, 3), (48, .bipush 42, 2), (50, .dup2, 1), (51, .iaload, 1), (52, .iconst 1, 1), (53, .isub, 1), (54, .iastore, 1), (55, .iconst 0, 1), (56, .istore_n 1, 1), (57, .iload_n 1, 1), (58, .bipush 14, 2), (60, .if_icmp .ge 35, 3), (63, .aload_n 0, 1), (64, .getfield 13, 3), (67, .bipush 43, 2), (69, .bipush 14, 2), (71, .aload_n 0, 1), (72, .getfield 13, 3), (75, .bipush 42, 2), (77, .iaload, 1), (78, .imul, 1), (79, .iadd, 1), (80, .iload_n 1, 1), (81, .iadd, 1), (82, .aload_n 0, 1), (83, .getfield 36, 3), (86, .iload_n 1, 1), (87, .iaload, 1), (88, .iastore, 1), (89, .iinc 1 1, 3), (92, .goto (-35), 3), (95, .aload_n 0, 1), (96, .getfield 13, 3), (99, .bipush 42, 2), (101, .dup2, 1), (102, .iaload, 1), (103, .iconst 1, 1), (104, .iadd, 1), (105, .iastore, 1), (106, .return_, 1)]
theorem tk_m_notes : ∀ q ∈ tb_m_notes, decode M_m_notes.2.1 q.1 = .ok q.2 := by decide +kernel
/-- behind notes(): what was comes on top; the eldest is forgotten when there are 10 -/
def mNote (a w : Nat → Int32) (n : Nat) : Nat → Int32 := fun i =>
  if i = 42 then nI (if n = 10 then 10 else n + 1)
  else if 43 + 14 * (if n = 10 then 9 else n) ≤ i ∧ i < 43 + 14 * (if n = 10 then 9 else n) + 14 then w (i - (43 + 14 * (if n = 10 then 9 else n)))
  else if n = 10 ∧ 43 ≤ i ∧ i < 43 + 126 then a (i + 14) else a i
theorem c_m_notes {G : ab_G} {S : ab_S} (hm : mSh S) (n : Nat) (hn : mA S 42 = nI n) (hn10 : n ≤ 10) : ab_C G 0 M_m_notes [.ref 120] (sw S) (fun v w' => v = none ∧ ∃ S', w' = sw S' ∧ sEq [121] S S' ∧ mA S' = mNote (mA S) (sI S 127) n) := by
  refine x_enter [some (.ref 120), none] (by decide) (Nat.le_of_ble_eq_true rfl) rfl (fun v w' h => by obtain ⟨rfl, -⟩ := h; trivial) ?_
  have snd : ∀ (S2 : ab_S) (t : Nat) (ls : Option Value), t < 10 → sEq [121] S S2 → mA S2 42 = nI t → (up1 (fun i => if 43 + 14 * t ≤ i ∧ i < 43 + 14 * t + 14 then sI S 127 (i - (43 + 14 * t)) else mA S2 i) 42 (nI (t + 1)) = mNote (mA S) (sI S 127) n) → ab_Ex G 0 M_m_notes 57 [some (.ref 120), some (.int (nI 0))] [] (sw S2) (fun v w' => v = none ∧ ∃ S', w' = sw S' ∧ sEq [121] S S' ∧ mA S' = mNote (mA S) (sI S 127) n) := by
    intro S2 t _ ht hE2 h42 hfin
    have hm2 := hm.eq hE2
    have loop2 : ∀ (m k : Nat), k + m = 14 → ∀ S1 : ab_S, sEq [121] S2 S1 → (∀ i, sI S1 121 i = if (43 + 14 * t) ≤ i ∧ i < (43 + 14 * t) + k then (fun j => sI S 127 j) (i - (43 + 14 * t)) else sI S2 121 i) → ab_Ex G 0 M_m_notes 57 [some (.ref 120), some (.int (nI k))] [] (sw S1) (fun v w' => v = none ∧ ∃ S', w' = sw S' ∧ sEq [121] S S' ∧ mA S' = mNote (mA S) (sI S 127) n) := by
      intro m
      induction m with
      | zero =>
        intro k hk S1 hE hV
        have hm1 := hm2.eq hE
        have hkN : k = 14 := by omega
        rw [hkN] at hV ⊢
        refine x_iload_n 58 1 (ab_dd tk_m_notes 35 rfl) rfl rfl rfl ?_
        refine x_bipush 60 14 (ab_dd tk_m_notes 36 rfl) rfl (by decide) ?_
        refine x_icmp_ge_t 95 (ab_dd tk_m_notes 37 rfl) (by decide) (by decide) ?_
        refine x_aload_n 96 0 (ab_dd tk_m_notes 57 rfl) rfl rfl rfl ?_
        refine t_getP 99 121 (ab_dd tk_m_notes 58 rfl) rfl F_m_13 (by decide) (Nat.lt_of_lt_of_le (by decide) hm1.1) (hm1.2.1 0 (by decide)) rfl (hm1.2.2 1 (by decide)) ?_
        refine x_bipush 101 42 (ab_dd tk_m_notes 59 rfl) rfl (by decide) ?_
        refine x_dup2 102 (ab_dd tk_m_notes 60 rfl) rfl rfl rfl ?_
        refine t_iald 103 42 (ab_dd tk_m_notes 61 rfl) rfl (by decide) (Nat.lt_of_lt_of_le (by decide) hm1.1) (hm1.2.1 1 (by decide)) (by decide) (by decide) (by decide) ?_
        refine x_iconst 104 1 (ab_dd tk_m_notes 62 rfl) rfl (by decide) ?_
        refine x_iadd 105 (ab_dd tk_m_notes 63 rfl) rfl ?_
        refine t_iast 106 42 (ab_dd tk_m_notes 64 rfl) rfl (by decide) (Nat.lt_of_lt_of_le (by decide) hm1.1) (hm1.2.1 1 (by decide)) (by decide) (by decide) (by decide) ?_
        exact x_vret (ab_dd tk_m_notes 65 rfl) (⟨rfl, _, rfl, (hE2.tr hE).pI (by decide), by rw [← hfin]; funext i; show up2 (sI S1) 121 42 _ 121 i = _; by_cases hi : i = 42; (· subst hi; rw [up2_s, up1_s, show sI S1 121 42 = nI t by rw [hV 42, if_neg (by omega)]; exact h42, nI_1]); (· rw [up2_k hi, up1_o hi, hV i])⟩)
      | succ m ih =>
        intro k hk S1 hE hV
        have hm1 := hm2.eq hE
        refine x_iload_n 58 1 (ab_dd tk_m_notes 35 rfl) rfl rfl rfl ?_
        refine x_bipush 60 14 (ab_dd tk_m_notes 36 rfl) rfl (by decide) ?_
        refine x_icmp_ge_f 63 (ab_dd tk_m_notes 37 rfl) rfl 95 (by decide) (by rw [show (14 : Int32) = nI 14 from rfl, nI_leI (by decide) (by omega)]; omega) ?_
        refine x_aload_n 64 0 (ab_dd tk_m_notes 38 rfl) rfl rfl rfl ?_
        refine t_getP 67 121 (ab_dd tk_m_notes 39 rfl) rfl F_m_13 (by decide) (Nat.lt_of_lt_of_le (by decide) hm1.1) (hm1.2.1 0 (by decide)) rfl (hm1.2.2 1 (by decide)) ?_
        refine x_bipush 69 43 (ab_dd tk_m_notes 40 rfl) rfl (by decide) ?_
        refine x_bipush 71 14 (ab_dd tk_m_notes 41 rfl) rfl (by decide) ?_
        refine x_aload_n 72 0 (ab_dd tk_m_notes 42 rfl) rfl rfl rfl ?_
        refine t_getP 75 121 (ab_dd tk_m_notes 43 rfl) rfl F_m_13 (by decide) (Nat.lt_of_lt_of_le (by decide) hm1.1) (hm1.2.1 0 (by decide)) rfl (hm1.2.2 1 (by decide)) ?_
        refine x_bipush 77 42 (ab_dd tk_m_notes 44 rfl) rfl (by decide) ?_
        refine t_iald 78 42 (ab_dd tk_m_notes 45 rfl) rfl (by decide) (Nat.lt_of_lt_of_le (by decide) hm1.1) (hm1.2.1 1 (by decide)) (by decide) (by decide) (by decide) ?_
        refine x_imul 79 (ab_dd tk_m_notes 46 rfl) rfl ?_
        refine x_iadd 80 (ab_dd tk_m_notes 47 rfl) rfl ?_
        refine x_iload_n 81 1 (ab_dd tk_m_notes 48 rfl) rfl rfl rfl ?_
        refine x_iadd 82 (ab_dd tk_m_notes 49 rfl) rfl ?_
        refine x_aload_n 83 0 (ab_dd tk_m_notes 50 rfl) rfl rfl rfl ?_
        refine t_getP 86 127 (ab_dd tk_m_notes 51 rfl) rfl F_m_36 (by decide) (Nat.lt_of_lt_of_le (by decide) hm1.1) (hm1.2.1 0 (by decide)) rfl (hm1.2.2 18 (by decide)) ?_
        refine x_iload_n 87 1 (ab_dd tk_m_notes 52 rfl) rfl rfl rfl ?_
        refine t_iald 88 k (ab_dd tk_m_notes 53 rfl) rfl (by decide) (Nat.lt_of_lt_of_le (by decide) hm1.1) (hm1.2.1 7 (by decide)) rfl (by omega) (by decide) ?_
        refine t_iast 89 (43 + 14 * t + k) (ab_dd tk_m_notes 54 rfl) rfl (by decide) (Nat.lt_of_lt_of_le (by decide) hm1.1) (hm1.2.1 1 (by decide)) (by rw [show sI S1 121 42 = nI t by rw [hV 42, if_neg (by omega)]; exact h42, show (43 : Int32) = nI 43 from rfl, show (14 : Int32) = nI 14 from rfl, pk_mul, nI_add, nI_add]) (by omega) (by decide) ?_
        refine x_iincN 92 1 1 (fun y => [some (.ref 120), some (.int y)]) (ab_dd tk_m_notes 55 rfl) rfl (by decide) rfl (by decide) (fun _ => rfl) (fun v1 ev1 => ?_)
        refine x_goto 57 (ab_dd tk_m_notes 56 rfl) (by decide) ?_
        have hw : v1 = nI (k + 1) := by rw [ev1, nI_1]
        subst hw
        refine ih (k + 1) (by omega) _ ?_ ?_
        · exact hE.pI (by decide)
        · intro i
          show up2 (sI S1) 121 ((43 + 14 * t) + k) _ 121 i = _
          by_cases hi : i = (43 + 14 * t) + k
          · subst hi
            rw [up2_s, if_pos ⟨by omega, by omega⟩, show (43 + 14 * t) + k - (43 + 14 * t) = k by omega]
            rw [hE.2.2.1 127 (by decide), hE2.2.2.1 127 (by decide)]
          · rw [up2_k hi, hV i]
            by_cases h1 : (43 + 14 * t) ≤ i ∧ i < (43 + 14 * t) + k
            · rw [if_pos h1, if_pos ⟨h1.1, by omega⟩]
            · rw [if_neg h1, if_neg (fun z => h1 ⟨z.1, by omega⟩)]
    exact loop2 14 0 rfl S2 sEq.rf (fun i => by rw [if_neg (by omega)])
  have loop1 : n = 10 → ∀ (m k : Nat), k + m = 126 → ∀ S1 : ab_S, sEq [121] S S1 → (∀ i, sI S1 121 i = if 43 ≤ i ∧ i < 43 + k then (fun j => mA S (57 + j)) (i - 43) else sI S 121 i) → ab_Ex G 0 M_m_notes 14 [some (.ref 120), some (.int (nI k))] [] (sw S1) (fun v w' => v = none ∧ ∃ S', w' = sw S' ∧ sEq [121] S S' ∧ mA S' = mNote (mA S) (sI S 127) n) := by
    intro hn' m
    induction m with
    | zero =>
      intro k hk S1 hE hV
      have hm1 := hm.eq hE
      have hkN : k = 126 := by omega
      rw [hkN] at hV ⊢
      refine x_iload_n 15 1 (ab_dd tk_m_notes 8 rfl) rfl rfl rfl ?_
      refine x_bipush 17 126 (ab_dd tk_m_notes 9 rfl) rfl (by decide) ?_
      refine x_icmp_ge_t 44 (ab_dd tk_m_notes 10 rfl) (by decide) (by decide) ?_
      refine x_aload_n 45 0 (ab_dd tk_m_notes 25 rfl) rfl rfl rfl ?_
      refine t_getP 48 121 (ab_dd tk_m_notes 26 rfl) rfl F_m_13 (by decide) (Nat.lt_of_lt_of_le (by decide) hm1.1) (hm1.2.1 0 (by decide)) rfl (hm1.2.2 1 (by decide)) ?_
      refine x_bipush 50 42 (ab_dd tk_m_notes 27 rfl) rfl (by decide) ?_
      refine x_dup2 51 (ab_dd tk_m_notes 28 rfl) rfl rfl rfl ?_
      refine t_iald 52 42 (ab_dd tk_m_notes 29 rfl) rfl (by decide) (Nat.lt_of_lt_of_le (by decide) hm1.1) (hm1.2.1 1 (by decide)) (by decide) (by decide) (by decide) ?_
      refine x_iconst 53 1 (ab_dd tk_m_notes 30 rfl) rfl (by decide) ?_
      refine x_isub 54 (ab_dd tk_m_notes 31 rfl) rfl ?_
      refine t_iast 55 42 (ab_dd tk_m_notes 32 rfl) rfl (by decide) (Nat.lt_of_lt_of_le (by decide) hm1.1) (hm1.2.1 1 (by decide)) (by decide) (by decide) (by decide) ?_
      refine x_iconst 56 0 (ab_dd tk_m_notes 33 rfl) rfl (by decide) ?_
      refine x_topi (fun v1 ev1 => ?_)
      refine x_istore_n 57 [some (.ref 120), some (.int v1)] 1 (ab_dd tk_m_notes 34 rfl) rfl rfl (by decide) rfl ?_
      subst ev1
      refine snd _ 9 none (by decide) (hE.pI (by decide)) ?_ ?_
      · refine (up2_s (f := sI S1) (a := 121) (k := 42) (x := sI S1 121 42 - 1)).trans ?_
        rw [hV 42, if_neg (by omega), show sI S 121 42 = nI n from hn, hn']
        decide
      · funext i
        unfold mNote
        rw [hn', if_pos rfl, if_pos rfl]
        by_cases hi : i = 42
        · subst hi
          rw [up1_s, if_pos rfl]
        · rw [up1_o hi, if_neg hi]
          by_cases h9 : 43 + 14 * 9 ≤ i ∧ i < 43 + 14 * 9 + 14
          · rw [if_pos h9, if_pos h9]
          · rw [if_neg h9, if_neg h9]
            show up2 (sI S1) 121 42 _ 121 i = _
            rw [up2_k hi, hV i]
            by_cases h1 : 43 ≤ i ∧ i < 43 + 126
            · rw [if_pos h1, if_pos ⟨rfl, h1⟩]
              show mA S (57 + (i - 43)) = _
              congr 1; omega
            · rw [if_neg h1, if_neg (fun z => h1 z.2)]
    | succ m ih =>
      intro k hk S1 hE hV
      have hm1 := hm.eq hE
      refine x_iload_n 15 1 (ab_dd tk_m_notes 8 rfl) rfl rfl rfl ?_
      refine x_bipush 17 126 (ab_dd tk_m_notes 9 rfl) rfl (by decide) ?_
      refine x_icmp_ge_f 20 (ab_dd tk_m_notes 10 rfl) rfl 44 (by decide) (by rw [show (126 : Int32) = nI 126 from rfl, nI_leI (by decide) (by omega)]; omega) ?_
      refine x_aload_n 21 0 (ab_dd tk_m_notes 11 rfl) rfl rfl rfl ?_
      refine t_getP 24 121 (ab_dd tk_m_notes 12 rfl) rfl F_m_13 (by decide) (Nat.lt_of_lt_of_le (by decide) hm1.1) (hm1.2.1 0 (by decide)) rfl (hm1.2.2 1 (by decide)) ?_
      refine x_bipush 26 43 (ab_dd tk_m_notes 13 rfl) rfl (by decide) ?_
      refine x_iload_n 27 1 (ab_dd tk_m_notes 14 rfl) rfl rfl rfl ?_
      refine x_iadd 28 (ab_dd tk_m_notes 15 rfl) rfl ?_
      refine x_aload_n 29 0 (ab_dd tk_m_notes 16 rfl) rfl rfl rfl ?_
      refine t_getP 32 121 (ab_dd tk_m_notes 17 rfl) rfl F_m_13 (by decide) (Nat.lt_of_lt_of_le (by decide) hm1.1) (hm1.2.1 0 (by decide)) rfl (hm1.2.2 1 (by decide)) ?_
      refine x_bipush 34 57 (ab_dd tk_m_notes 18 rfl) rfl (by decide) ?_
      refine x_iload_n 35 1 (ab_dd tk_m_notes 19 rfl) rfl rfl rfl ?_
      refine x_iadd 36 (ab_dd tk_m_notes 20 rfl) rfl ?_
      refine t_iald 37 (57 + k) (ab_dd tk_m_notes 21 rfl) rfl (by decide) (Nat.lt_of_lt_of_le (by decide) hm1.1) (hm1.2.1 1 (by decide)) (by rw [show (57 : Int32) = nI 57 from rfl, nI_add]) (by omega) (by decide) ?_
      refine t_iast 38 (43 + k) (ab_dd tk_m_notes 22 rfl) rfl (by decide) (Nat.lt_of_lt_of_le (by decide) hm1.1) (hm1.2.1 1 (by decide)) (by rw [show (43 : Int32) = nI 43 from rfl, nI_add]) (by omega) (by decide) ?_
      refine x_iincN 41 1 1 (fun y => [some (.ref 120), some (.int y)]) (ab_dd tk_m_notes 23 rfl) rfl (by decide) rfl (by decide) (fun _ => rfl) (fun v1 ev1 => ?_)
      refine x_goto 14 (ab_dd tk_m_notes 24 rfl) (by decide) ?_
      have hw : v1 = nI (k + 1) := by rw [ev1, nI_1]
      subst hw
      refine ih (k + 1) (by omega) _ ?_ ?_
      · exact hE.pI (by decide)
      · intro i
        show up2 (sI S1) 121 (43 + k) _ 121 i = _
        by_cases hi : i = 43 + k
        · subst hi
          rw [up2_s, if_pos ⟨by omega, by omega⟩, show 43 + k - 43 = k by omega]
          rw [hV (57 + k), if_neg (by omega)]
        · rw [up2_k hi, hV i]
          by_cases h1 : 43 ≤ i ∧ i < 43 + k
          · rw [if_pos h1, if_pos ⟨h1.1, by omega⟩]
          · rw [if_neg h1, if_neg (fun z => h1 ⟨z.1, by omega⟩)]
  refine x_aload_n 1 0 (ab_dd tk_m_notes 0 rfl) rfl rfl rfl ?_
  refine t_getP 4 121 (ab_dd tk_m_notes 1 rfl) rfl F_m_13 (by decide) (Nat.lt_of_lt_of_le (by decide) hm.1) (hm.2.1 0 (by decide)) rfl (hm.2.2 1 (by decide)) ?_
  refine x_bipush 6 42 (ab_dd tk_m_notes 2 rfl) rfl (by decide) ?_
  refine t_iald 7 42 (ab_dd tk_m_notes 3 rfl) rfl (by decide) (Nat.lt_of_lt_of_le (by decide) hm.1) (hm.2.1 1 (by decide)) (by decide) (by decide) (by decide) ?_
  refine x_bipush 9 10 (ab_dd tk_m_notes 4 rfl) rfl (by decide) ?_
  refine x_icmp_ne 12 55 (ab_dd tk_m_notes 5 rfl) rfl (by decide) (fun h9 => ?_) (fun h9 => ?_)
  · refine x_iconst 56 0 (ab_dd tk_m_notes 33 rfl) rfl (by decide) ?_
    refine x_topi (fun v1 ev1 => ?_)
    refine x_istore_n 57 [some (.ref 120), some (.int v1)] 1 (ab_dd tk_m_notes 34 rfl) rfl rfl (by decide) rfl ?_
    subst ev1
    have hnn : n ≠ 10 := fun e => h9 (by rw [show sI S 121 42 = nI n from hn, e]; rfl)
    refine snd S n none (by omega) sEq.rf hn ?_
    funext i
    unfold mNote
    rw [if_neg hnn, if_neg hnn]
    by_cases hi : i = 42
    · subst hi
      rw [up1_s, if_pos rfl]
    · rw [up1_o hi, if_neg hi]
      by_cases h1 : 43 + 14 * n ≤ i ∧ i < 43 + 14 * n + 14
      · rw [if_pos h1, if_pos h1]
      · rw [if_neg h1, if_neg h1, if_neg (fun z => hnn z.1)]
  · refine x_iconst 13 0 (ab_dd tk_m_notes 6 rfl) rfl (by decide) ?_
    refine x_topi (fun v2 ev2 => ?_)
    refine x_istore_n 14 [some (.ref 120), some (.int v2)] 1 (ab_dd tk_m_notes 7 rfl) rfl rfl (by decide) rfl ?_
    subst ev2
    exact loop1 ((nI_eq (by omega) (by decide)).mp (hn ▸ h9)) 126 0 rfl S sEq.rf (fun i => by rw [if_neg (by omega)])
