/-! ===== forcing: the queue ===== -/
def tb_fo_enqueue : List (Nat × Instr × Nat) := [(0, .aload_n 0, 1), (1, .getfield 24, 3), (4, .iload_n 1, 1), (5, .iaload, 1), (6, .iconst (-1), 1), (7, .if_icmp .ne 42, 3), (10, .aload_n 0, 1), (11, .getfield 21, 3), (14, .aload_n 0, 1), (15, .getfield 28, 3), (18, .arraylength, 1), (19, .if_icmp .ge 30, 3), (22, .aload_n 0, 1), (23, .getfield 24, 3), (26, .iload_n 1, 1), (27, .iload_n 2, 1), (28, .iastore, 1), (29, .aload_n 0, 1), (30, .getfield 28, 3), (33, .aload_n 0, 1), (34, .getfield 21, 3), (37, .iload_n 1, 1), (38, .iastore, 1), (39, .aload_n 0, 1), (40, .dup, 1), (41, .getfield 21, 3), (44, .iconst 1, 1), (45, .iadd, 1), (46, .putfield 21, 3), (49, .return_, 1)]
theorem tk_fo_enqueue : ∀ q ∈ tb_fo_enqueue, decode M_fo_enqueue.2.1 q.1 = .ok q.2 := by decide +kernel
theorem c_fo_enqueue {G : ab_G} {S : ab_S} {F N T : Nat} (hF : foK S F N) (hTN : T ≤ N) {Q : Nat → Nat} {q : Nat} {R : Nat → Option Nat} (hQ : foQ S F T Q q R) (y v : Nat) (hy : y < 2 * T) (hR : ∀ n, R y = some n → n < 2 ^ 31) (hq : R y = none → q < 2 * T) : ab_C G 0 M_fo_enqueue [.ref F, .int (nI y), .int (nI v)] (sw S) (fun z w' => z = none ∧ ∃ S' Q' q' R', w' = sw S' ∧ sEq [F, F + 1, F + 2] S S' ∧ foQ S' F T Q' q' R' ∧ ((R y ≠ none ∧ Q' = Q ∧ q' = q ∧ R' = R) ∨ (R y = none ∧ Q' = up1 Q q y ∧ q' = q + 1 ∧ R' = up1 R y (some v))) ∧ ∀ j, j ≠ 8 → sI S' F j = sI S F j) := by
  refine x_enter [some (.ref F), some (.int (nI y)), some (.int (nI v))] (by decide) (Nat.le_of_ble_eq_true rfl) rfl (fun v w' h => by obtain ⟨rfl, -⟩ := h; trivial) ?_
  have hN15 : N ≤ 15000 := hF.2.2.2.2.2.2.2.2.2.2.2.2.2
  have hF145 := hF.1
  obtain ⟨g1, g2, g3⟩ := hQ
  have hv := g3 y hy
  rcases hc : R y with _ | n
  · rw [hc] at hv
    have hq1 := hq hc
    refine x_aload_n 1 0 (ab_dd tk_fo_enqueue 0 rfl) rfl rfl rfl ?_
    refine t_getP 4 (F + 1) (ab_dd tk_fo_enqueue 1 rfl) rfl F_fo_24 (by have := hF.1; omega) (Nat.lt_of_le_of_lt (Nat.le_add_right F 5) hF.2.1) hF.2.2.1 rfl hF.2.2.2.2.2.2.2.2.1 ?_
    refine x_iload_n 5 1 (ab_dd tk_fo_enqueue 2 rfl) rfl rfl rfl ?_
    refine t_iald 6 y (ab_dd tk_fo_enqueue 3 rfl) rfl (by have := hF.1; omega) (Nat.lt_of_le_of_lt (Nat.add_le_add_left (by decide) F) hF.2.1) hF.2.2.2.1 rfl (by omega) (by omega) (x_topx (-1) hv ?_)
    refine x_iconst 7 (-1) (ab_dd tk_fo_enqueue 4 rfl) rfl (by decide) ?_
    refine x_icmp_ne_f 10 (ab_dd tk_fo_enqueue 5 rfl) rfl 49 (by decide) rfl ?_
    refine x_aload_n 11 0 (ab_dd tk_fo_enqueue 6 rfl) rfl rfl rfl ?_
    refine t_getI 14 (ab_dd tk_fo_enqueue 7 rfl) rfl F_fo_21 (by have := hF.1; omega) (Nat.lt_of_le_of_lt (Nat.le_add_right F 5) hF.2.1) hF.2.2.1 rfl (x_topn q g1 ?_)
    refine x_aload_n 15 0 (ab_dd tk_fo_enqueue 8 rfl) rfl rfl rfl ?_
    refine t_getP 18 (F + 2) (ab_dd tk_fo_enqueue 9 rfl) rfl F_fo_28 (by have := hF.1; omega) (Nat.lt_of_le_of_lt (Nat.le_add_right F 5) hF.2.1) hF.2.2.1 rfl hF.2.2.2.2.2.2.2.2.2.1 ?_
    refine t_alen 19 0 (ab_dd tk_fo_enqueue 10 rfl) rfl (by have := hF.1; omega) (Nat.lt_of_le_of_lt (Nat.add_le_add_left (by decide) F) hF.2.1) rfl hF.2.2.2.2.1 ?_
    refine x_icmp_ge_f 22 (ab_dd tk_fo_enqueue 11 rfl) rfl 49 (by decide) (fun z => absurd ((nI_leI (a := (2 * N)) (b := q) (by omega) (by omega)).mp z) (show ¬ ((2 * N) ≤ q) by omega)) ?_
    refine x_aload_n 23 0 (ab_dd tk_fo_enqueue 12 rfl) rfl rfl rfl ?_
    refine t_getP 26 (F + 1) (ab_dd tk_fo_enqueue 13 rfl) rfl F_fo_24 (by have := hF.1; omega) (Nat.lt_of_le_of_lt (Nat.le_add_right F 5) hF.2.1) hF.2.2.1 rfl hF.2.2.2.2.2.2.2.2.1 ?_
    refine x_iload_n 27 1 (ab_dd tk_fo_enqueue 14 rfl) rfl rfl rfl ?_
    refine x_iload_n 28 2 (ab_dd tk_fo_enqueue 15 rfl) rfl rfl rfl ?_
    refine t_iast 29 y (ab_dd tk_fo_enqueue 16 rfl) rfl (by have := hF.1; omega) (Nat.lt_of_le_of_lt (Nat.add_le_add_left (by decide) F) hF.2.1) hF.2.2.2.1 rfl (by omega) (by omega) ?_
    refine x_aload_n 30 0 (ab_dd tk_fo_enqueue 17 rfl) rfl rfl rfl ?_
    refine t_getP 33 (F + 2) (ab_dd tk_fo_enqueue 18 rfl) rfl F_fo_28 (by have := hF.1; omega) (Nat.lt_of_le_of_lt (Nat.le_add_right F 5) hF.2.1) hF.2.2.1 rfl hF.2.2.2.2.2.2.2.2.2.1 ?_
    refine x_aload_n 34 0 (ab_dd tk_fo_enqueue 19 rfl) rfl rfl rfl ?_
    refine t_getI 37 (ab_dd tk_fo_enqueue 20 rfl) rfl F_fo_21 (by have := hF.1; omega) (Nat.lt_of_le_of_lt (Nat.le_add_right F 5) hF.2.1) hF.2.2.1 rfl (x_topn q ((gI_a (by omega)).trans g1) ?_)
    refine x_iload_n 38 1 (ab_dd tk_fo_enqueue 21 rfl) rfl rfl rfl ?_
    refine t_iast 39 q (ab_dd tk_fo_enqueue 22 rfl) rfl (by have := hF.1; omega) (Nat.lt_of_le_of_lt (Nat.add_le_add_left (by decide) F) hF.2.1) hF.2.2.2.2.1 rfl (by omega) (by omega) ?_
    refine x_aload_n 40 0 (ab_dd tk_fo_enqueue 23 rfl) rfl rfl rfl ?_
    refine x_dup 41 (ab_dd tk_fo_enqueue 24 rfl) rfl rfl ?_
    refine t_getI 44 (ab_dd tk_fo_enqueue 25 rfl) rfl F_fo_21 (by have := hF.1; omega) (Nat.lt_of_le_of_lt (Nat.le_add_right F 5) hF.2.1) hF.2.2.1 rfl (x_topn q ((gI_a (by omega)).trans ((gI_a (by omega)).trans g1)) ?_)
    refine x_iconst 45 1 (ab_dd tk_fo_enqueue 26 rfl) rfl (by decide) (x_topn 1 rfl ?_)
    refine x_iadd 46 (ab_dd tk_fo_enqueue 27 rfl) rfl (x_topn (q + 1) (nI_add _ _) ?_)
    refine t_putI 49 (ab_dd tk_fo_enqueue 28 rfl) rfl F_fo_21 (by have := hF.1; omega) (Nat.lt_of_le_of_lt (Nat.le_add_right F 5) hF.2.1) hF.2.2.1 rfl rfl rfl ?_
    refine x_vret (ab_dd tk_fo_enqueue 29 rfl) ⟨rfl, (pI (pI (pI S (F + 1) y (nI v)) (F + 2) q (nI y)) F 8 (nI (q + 1))), up1 Q q y, q + 1, up1 R y (some v), rfl, ((sEq.rf.pI (by simp)).pI (by simp)).pI (by simp), ⟨gI_s, fun k hk => ?_, fun x hx => ?_⟩, Or.inr ⟨rfl, rfl, rfl, rfl⟩, fun j hj => ?_⟩
    · rw [gI_o (by omega)]
      by_cases z : k = q
      · rw [z, gI_s, up1_s]
      · rw [gI_k z, up1_o z, gI_o (by omega)]; exact g2 k (by omega)
    · rw [gI_o (by omega), gI_o (by omega)]
      by_cases z : x = y
      · rw [z, gI_s, up1_s]; rfl
      · rw [gI_k z, up1_o z]; exact g3 x hx
    · rw [gI_k hj, gI_o (by omega), gI_o (by omega)]
  · rw [hc] at hv
    refine x_aload_n 1 0 (ab_dd tk_fo_enqueue 0 rfl) rfl rfl rfl ?_
    refine t_getP 4 (F + 1) (ab_dd tk_fo_enqueue 1 rfl) rfl F_fo_24 (by have := hF.1; omega) (Nat.lt_of_le_of_lt (Nat.le_add_right F 5) hF.2.1) hF.2.2.1 rfl hF.2.2.2.2.2.2.2.2.1 ?_
    refine x_iload_n 5 1 (ab_dd tk_fo_enqueue 2 rfl) rfl rfl rfl ?_
    refine t_iald 6 y (ab_dd tk_fo_enqueue 3 rfl) rfl (by have := hF.1; omega) (Nat.lt_of_le_of_lt (Nat.add_le_add_left (by decide) F) hF.2.1) hF.2.2.2.1 rfl (by omega) (by omega) (x_topx (nI n) hv ?_)
    refine x_iconst 7 (-1) (ab_dd tk_fo_enqueue 4 rfl) rfl (by decide) ?_
    refine x_icmp_ne_t 49 (ab_dd tk_fo_enqueue 5 rfl) (by decide) (nI_nm1 (hR n hc)) ?_
    exact x_vret (ab_dd tk_fo_enqueue 29 rfl) ⟨rfl, S, Q, q, R, rfl, sEq.rf, ⟨g1, g2, g3⟩, Or.inl ⟨(by intro z; cases z), rfl, rfl, rfl⟩, fun _ _ => rfl⟩
def tb_fo_size : List (Nat × Instr × Nat) := [(0, .aload_n 0, 1), (1, .getfield 31, 3), (4, .arraylength, 1), (5, .ireturn, 1)]
theorem tk_fo_size : ∀ q ∈ tb_fo_size, decode M_fo_size.2.1 q.1 = .ok q.2 := by decide +kernel
theorem c_fo_size {G : ab_G} {S : ab_S} {F N : Nat} (hF : foK S F N) : ab_C G 0 M_fo_size [.ref F] (sw S) (fun v w' => v = some (.int (nI N)) ∧ w' = sw S) := by
  refine x_enter [some (.ref F)] (by decide) (Nat.le_of_ble_eq_true rfl) rfl (fun v w' h => by obtain ⟨rfl, rfl⟩ := h; rfl) ?_
  refine x_aload_n 1 0 (ab_dd tk_fo_size 0 rfl) rfl rfl rfl ?_
  refine t_getP 4 (F + 3) (ab_dd tk_fo_size 1 rfl) rfl F_fo_31 (by have := hF.1; omega) (Nat.lt_of_le_of_lt (Nat.le_add_right F 5) hF.2.1) hF.2.2.1 rfl hF.2.2.2.2.2.2.2.2.2.2.1 ?_
  refine t_alen 5 0 (ab_dd tk_fo_size 2 rfl) rfl (by have := hF.1; omega) (Nat.lt_of_le_of_lt (Nat.add_le_add_left (by decide) F) hF.2.1) rfl hF.2.2.2.2.2.1 ?_
  exact x_iret (ab_dd tk_fo_size 3 rfl) ⟨rfl, rfl⟩
def tb_fo_fewest : List (Nat × Instr × Nat) := [(0, .aload_n 0, 1), (1, .getfield 24, 3), (4, .iconst 0, 1), (5, .iaload, 1), (6, .ireturn, 1)]
theorem tk_fo_fewest : ∀ q ∈ tb_fo_fewest, decode M_fo_fewest.2.1 q.1 = .ok q.2 := by decide +kernel
theorem c_fo_fewest {G : ab_G} {S : ab_S} {F N : Nat} (hF : foK S F N) (hN0 : 0 < N) : ab_C G 0 M_fo_fewest [.ref F] (sw S) (fun v w' => v = some (.int (sI S (F + 1) 0)) ∧ w' = sw S) := by
  refine x_enter [some (.ref F)] (by decide) (Nat.le_of_ble_eq_true rfl) rfl (fun v w' h => by obtain ⟨rfl, rfl⟩ := h; rfl) ?_
  have hN15 : N ≤ 15000 := hF.2.2.2.2.2.2.2.2.2.2.2.2.2
  refine x_aload_n 1 0 (ab_dd tk_fo_fewest 0 rfl) rfl rfl rfl ?_
  refine t_getP 4 (F + 1) (ab_dd tk_fo_fewest 1 rfl) rfl F_fo_24 (by have := hF.1; omega) (Nat.lt_of_le_of_lt (Nat.le_add_right F 5) hF.2.1) hF.2.2.1 rfl hF.2.2.2.2.2.2.2.2.1 ?_
  refine x_iconst 5 0 (ab_dd tk_fo_fewest 2 rfl) rfl (by decide) (x_topn 0 rfl ?_)
  refine t_iald 6 0 (ab_dd tk_fo_fewest 3 rfl) rfl (by have := hF.1; omega) (Nat.lt_of_le_of_lt (Nat.add_le_add_left (by decide) F) hF.2.1) hF.2.2.2.1 rfl (by omega) (by omega) ?_
  exact x_iret (ab_dd tk_fo_fewest 4 rfl) ⟨rfl, rfl⟩
def tb_fo_rankAhead : List (Nat × Instr × Nat) := [(0, .iconst 1, 1), (1, .iload_n 1, 1), (2, .iconst 2, 1), (3, .irem, 1), (4, .isub, 1), (5, .istore_n 2, 1), (6, .aload_n 0, 1), (7, .getfield 34, 3), (10, .iload_n 1, 1), (11, .iconst 2, 1), (12, .idiv, 1), (13, .iaload, 1), (14, .istore_n 3, 1), (15, .iconst 0, 1), (16, .istore 4, 2), (18, .iload 4, 2), (20, .aload_n 0, 1), (21, .getfield 37, 3), (24, .arraylength, 1), (25, .if_icmp .ge 74, 3), (28, .iload_n 3, 1), (29, .iconst (-1), 1), (30, .if_icmp .eq 69, 3), (33, .iload_n 3, 1), (34, .iconst 4, 1), (35, .idiv, 1), (36, .istore 5, 2), (38, .iload_n 2, 1), (39, .iconst 1, 1), (40, .if_icmp .ne 14, 3), (43, .aload_n 0, 1), (44, .getfield 31, 3), (47, .iload 5, 2), (49, .dup2, 1), (50, .iaload, 1), (51, .iconst 1, 1), (52, .isub, 1), (53, .iastore, 1), (54, .iload_n 2, 1), (55, .ifCond .eq 13, 3), (58, .aload_n 0, 1), (59, .getfield 31, 3), (62, .iload 5, 2), (64, .iaload, 1), (65, .ifCond .ne 21, 3), (68, .aload_n 0, 1), (69, .iconst 2, 1), (70, .iload 5, 2), (72, .imul, 1), (73, .iload_n 2, 1), (74, .iadd, 1), (75, .aload_n 0, 1), (76, .getfield 24, 3), (79, .iload_n 1, 1), (80, .iaload, 1), (81, .iconst 1, 1), (82, .iadd, 1), (83, .invokevirtual 73, 3), (86, .aload_n 0, 1), (87, .getfield 37, 3), (90, .iload_n 3, 1), (91, .iaload, 1), (92, .istore_n 3, 1), (93, .iinc 4 1, 3), (96, .goto (-78), 3), (99, .return_, 1)]
theorem tk_fo_rankAhead : ∀ q ∈ tb_fo_rankAhead, decode M_fo_rankAhead.2.1 q.1 = .ok q.2 := by decide +kernel
theorem c_fo_rankAhead {G : ab_G} {S : ab_S} {F N T : Nat} (hF : foK S F N) (hTN : T ≤ N) {g : Nat → Nat → Option Nat} {W : Nat → Prop} (hg : ∀ i d j, i < T → d < 4 → g i d = some j → j < T) {Q : Nat → Nat} {q i : Nat} {R : Nat → Option Nat} {pd : Nat → Bool} (hQ : foQ S F T Q q R) (hI : fcI g W T Q q i R pd) (hi : i < q) (hes : ∀ s, s < T → sI S (F + 3) s = nI (es g pd 0 (4 * T) s)) (hE : foE S F T g (4 * T)) : ab_C G 1 M_fo_rankAhead [.ref F, .int (nI (Q i))] (sw S) (fun z w' => z = none ∧ ∃ S' Q' q' R', w' = sw S' ∧ sEq [F, F + 1, F + 2, F + 3] S S' ∧ foQ S' F T Q' q' R' ∧ fcI g W T Q' q' (i + 1) R' (up1 pd (Q i) true) ∧ (∀ s, s < T → sI S' (F + 3) s = nI (es g (up1 pd (Q i) true) 0 (4 * T) s)) ∧ (∀ j, j ≠ 8 → sI S' F j = sI S F j)) := by
  refine x_enter [some (.ref F), some (.int (nI (Q i))), none, none, none, none] (by decide) (Nat.le_of_ble_eq_true rfl) rfl (fun v w' h => by obtain ⟨rfl, -⟩ := h; trivial) ?_
  have hN15 : N ≤ 15000 := hF.2.2.2.2.2.2.2.2.2.2.2.2.2
  have hF145 := hF.1
  have hxT := (hI.1 i hi).1
  obtain ⟨j, b, hxj, hjT⟩ : ∃ (j : Nat) (b : Bool), Q i = (if b = true then 2 * j else 2 * j + 1) ∧ j < T := by
    by_cases z : Q i % 2 = 0
    · exact ⟨Q i / 2, true, by rw [if_pos rfl]; omega, by omega⟩
    · exact ⟨Q i / 2, false, by rw [if_neg (by decide)]; omega, by omega⟩
  have hj2 : Q i / 2 = j := by
    cases b with
    | true => rw [if_pos rfl] at hxj; omega
    | false => rw [if_neg (by decide)] at hxj; omega
  have hj3 : 1 - Q i % 2 = if b = true then 1 else 0 := by
    cases b with
    | true => rw [if_pos rfl] at hxj; rw [if_pos rfl]; omega
    | false => rw [if_neg (by decide)] at hxj; rw [if_neg (by decide)]; omega
  have loop : ∀ (u m l : Nat), m ≤ u → ∀ (S1 : ab_S) (Q1 : Nat → Nat) (q1 : Nat) (R1 : Nat → Option Nat) (y5 : Option Value), m ≤ 4 * T → l + m ≤ 4 * T → sEq [F, F + 1, F + 2, F + 3] S S1 → foQ S1 F T Q1 q1 R1 → fcM g W T Q1 q1 i R1 pd j m b → Q1 i = Q i → (∀ s, s < T → sI S1 (F + 3) s = nI (es g pd (Q i) m s)) → (∀ j, j ≠ 8 → sI S1 F j = sI S F j) → ab_Ex G 1 M_fo_rankAhead 18 [some (.ref F), some (.int (nI (Q i))), some (.int (nI (if b = true then 1 else 0))), some (.int (encN (pv g j m))), some (.int (nI l)), y5] [] (sw S1) (fun z w' => z = none ∧ ∃ S' Q' q' R', w' = sw S' ∧ sEq [F, F + 1, F + 2, F + 3] S S' ∧ foQ S' F T Q' q' R' ∧ fcI g W T Q' q' (i + 1) R' (up1 pd (Q i) true) ∧ (∀ s, s < T → sI S' (F + 3) s = nI (es g (up1 pd (Q i) true) 0 (4 * T) s)) ∧ (∀ j, j ≠ 8 → sI S' F j = sI S F j)) := by
    intro u
    induction u with
    | zero =>
      intro m l hu S1 Q1 q1 R1 y5 hm hlm hE1 hQ1 hM hQi hes1 hfr
      refine x_forget 5 ?_
      have hF1 : foK S1 F N := hF.eq hE1
      have hm0 : m = 0 := by omega
      subst hm0
      have hpv : pv g j 0 = none := rfl
      show ab_Ex _ _ _ _ [some (.ref F), some (.int (nI (Q i))), some (.int (nI (if b = true then 1 else 0))), some (.int (-1)), some (.int (nI l)), none] _ _ _
      refine x_iload 20 4 (ab_dd tk_fo_rankAhead 15 rfl) rfl rfl ?_
      refine x_aload_n 21 0 (ab_dd tk_fo_rankAhead 16 rfl) rfl rfl rfl ?_
      refine t_getP 24 (F + 5) (ab_dd tk_fo_rankAhead 17 rfl) rfl F_fo_37 (by have := hF1.1; omega) (Nat.lt_of_le_of_lt (Nat.le_add_right F 5) hF1.2.1) hF1.2.2.1 rfl hF1.2.2.2.2.2.2.2.2.2.2.2.2.1 ?_
      refine t_alen 25 0 (ab_dd tk_fo_rankAhead 18 rfl) rfl (by have := hF1.1; omega) (Nat.lt_of_le_of_lt (Nat.add_le_add_left (by decide) F) hF1.2.1) rfl hF1.2.2.2.2.2.2.2.1 ?_
      refine xn_icmp_ge 28 99 (ab_dd tk_fo_rankAhead 19 rfl) rfl (by decide) (by omega) (by omega) (fun h25 => ?_) (fun h25 => ?_)
      · exact x_vret (ab_dd tk_fo_rankAhead 65 rfl) ⟨rfl, S1, Q1, q1, R1, rfl, hE1, hQ1, by rw [← hQi]; exact hM.fin hpv, fun s hs => by rw [hes1 s hs, es_done hs (fun j' e1 e he e2 => by
          have hjj : j' = j := by
            have := hM.2.2.1
            rw [hQi, e1] at this
            cases b with
            | true => rw [if_pos rfl] at this; omega
            | false => rw [if_neg (by decide)] at this; omega
          rw [hjj] at e2
          exact pv_no _ hpv e he e2) (x' := 0)], hfr⟩
      · refine x_iload_n 29 3 (ab_dd tk_fo_rankAhead 20 rfl) rfl rfl rfl ?_
        refine x_iconst 30 (-1) (ab_dd tk_fo_rankAhead 21 rfl) rfl (by decide) ?_
        refine x_icmp_eq_t 99 (ab_dd tk_fo_rankAhead 22 rfl) (by decide) rfl ?_
        exact x_vret (ab_dd tk_fo_rankAhead 65 rfl) ⟨rfl, S1, Q1, q1, R1, rfl, hE1, hQ1, by rw [← hQi]; exact hM.fin hpv, fun s hs => by rw [hes1 s hs, es_done hs (fun j' e1 e he e2 => by
          have hjj : j' = j := by
            have := hM.2.2.1
            rw [hQi, e1] at this
            cases b with
            | true => rw [if_pos rfl] at this; omega
            | false => rw [if_neg (by decide)] at this; omega
          rw [hjj] at e2
          exact pv_no _ hpv e he e2) (x' := 0)], hfr⟩
    | succ u ih =>
      intro m l hu S1 Q1 q1 R1 y5 hm hlm hE1 hQ1 hM hQi hes1 hfr
      refine x_forget 5 ?_
      have hF1 : foK S1 F N := hF.eq hE1
      rcases hpv : pv g j m with _ | e
      · show ab_Ex _ _ _ _ [some (.ref F), some (.int (nI (Q i))), some (.int (nI (if b = true then 1 else 0))), some (.int (-1)), some (.int (nI l)), none] _ _ _
        refine x_iload 20 4 (ab_dd tk_fo_rankAhead 15 rfl) rfl rfl ?_
        refine x_aload_n 21 0 (ab_dd tk_fo_rankAhead 16 rfl) rfl rfl rfl ?_
        refine t_getP 24 (F + 5) (ab_dd tk_fo_rankAhead 17 rfl) rfl F_fo_37 (by have := hF1.1; omega) (Nat.lt_of_le_of_lt (Nat.le_add_right F 5) hF1.2.1) hF1.2.2.1 rfl hF1.2.2.2.2.2.2.2.2.2.2.2.2.1 ?_
        refine t_alen 25 0 (ab_dd tk_fo_rankAhead 18 rfl) rfl (by have := hF1.1; omega) (Nat.lt_of_le_of_lt (Nat.add_le_add_left (by decide) F) hF1.2.1) rfl hF1.2.2.2.2.2.2.2.1 ?_
        refine xn_icmp_ge 28 99 (ab_dd tk_fo_rankAhead 19 rfl) rfl (by decide) (by omega) (by omega) (fun h25 => ?_) (fun h25 => ?_)
        · exact x_vret (ab_dd tk_fo_rankAhead 65 rfl) ⟨rfl, S1, Q1, q1, R1, rfl, hE1, hQ1, by rw [← hQi]; exact hM.fin hpv, fun s hs => by rw [hes1 s hs, es_done hs (fun j' e1 e he e2 => by
            have hjj : j' = j := by
              have := hM.2.2.1
              rw [hQi, e1] at this
              cases b with
              | true => rw [if_pos rfl] at this; omega
              | false => rw [if_neg (by decide)] at this; omega
            rw [hjj] at e2
            exact pv_no _ hpv e he e2) (x' := 0)], hfr⟩
        · refine x_iload_n 29 3 (ab_dd tk_fo_rankAhead 20 rfl) rfl rfl rfl ?_
          refine x_iconst 30 (-1) (ab_dd tk_fo_rankAhead 21 rfl) rfl (by decide) ?_
          refine x_icmp_eq_t 99 (ab_dd tk_fo_rankAhead 22 rfl) (by decide) rfl ?_
          exact x_vret (ab_dd tk_fo_rankAhead 65 rfl) ⟨rfl, S1, Q1, q1, R1, rfl, hE1, hQ1, by rw [← hQi]; exact hM.fin hpv, fun s hs => by rw [hes1 s hs, es_done hs (fun j' e1 e he e2 => by
            have hjj : j' = j := by
              have := hM.2.2.1
              rw [hQi, e1] at this
              cases b with
              | true => rw [if_pos rfl] at this; omega
              | false => rw [if_neg (by decide)] at this; omega
            rw [hjj] at e2
            exact pv_no _ hpv e he e2) (x' := 0)], hfr⟩
      · show ab_Ex _ _ _ _ [some (.ref F), some (.int (nI (Q i))), some (.int (nI (if b = true then 1 else 0))), some (.int (nI e)), some (.int (nI l)), none] _ _ _
        obtain ⟨p1, p2, p3⟩ := pv_so m hpv
        have he4 : e / 4 < T := by omega
        obtain ⟨-, n, hn, hni⟩ := hM.1.1 i hM.2.1
        have hrk : rk R1 (Q1 i) = n := rk_s hn
        have hle := hM.1.le
        have hik := hM.2.1
        have hE' : foE S1 F T g (4 * T) := hE.eq hE1 (by simp) (by simp)
        have hRb : ∀ y v, y < 2 * T → R1 y = some v → v < 2 ^ 31 := fun y v hy ev => by
          obtain ⟨k, k1, k2⟩ := hM.1.2.1 y v hy ev
          obtain ⟨-, v', w1, w2⟩ := hM.1.1 k k1
          rw [k2, ev] at w1
          have := Option.some.inj w1
          omega
        have hqb : ∀ y, y < 2 * T → R1 y = none → fw g W (rk R1 (Q1 i) + 1) (tn y) (y / 2) → q1 < 2 * T := fun y hy ev hf => by
          have z := (hM.enq (e := e) hg hy (Or.inr ⟨ev, rfl, rfl, rfl⟩) hf).1.le
          omega
        have hnx : sI S1 (F + 5) e = encN (pv g j e) := hE'.2 e (by omega) j p2
        cases b with
        | false =>
          have hxo : Q1 i = 2 * j + 1 := hM.2.2.1
          show ab_Ex _ _ _ _ [some (.ref F), some (.int (nI (Q i))), some (.int (nI 0)), some (.int (nI e)), some (.int (nI l)), none] _ _ _
          refine x_iload 20 4 (ab_dd tk_fo_rankAhead 15 rfl) rfl rfl ?_
          refine x_aload_n 21 0 (ab_dd tk_fo_rankAhead 16 rfl) rfl rfl rfl ?_
          refine t_getP 24 (F + 5) (ab_dd tk_fo_rankAhead 17 rfl) rfl F_fo_37 (by have := hF1.1; omega) (Nat.lt_of_le_of_lt (Nat.le_add_right F 5) hF1.2.1) hF1.2.2.1 rfl hF1.2.2.2.2.2.2.2.2.2.2.2.2.1 ?_
          refine t_alen 25 0 (ab_dd tk_fo_rankAhead 18 rfl) rfl (by have := hF1.1; omega) (Nat.lt_of_le_of_lt (Nat.add_le_add_left (by decide) F) hF1.2.1) rfl hF1.2.2.2.2.2.2.2.1 ?_
          refine x_icmp_ge_f 28 (ab_dd tk_fo_rankAhead 19 rfl) rfl 99 (by decide) (fun z => absurd ((nI_leI (a := (N * 4)) (b := l) (by omega) (by omega)).mp z) (show ¬ ((N * 4) ≤ l) by omega)) ?_
          refine x_iload_n 29 3 (ab_dd tk_fo_rankAhead 20 rfl) rfl rfl rfl ?_
          refine x_iconst 30 (-1) (ab_dd tk_fo_rankAhead 21 rfl) rfl (by decide) ?_
          refine x_icmp_eq_f 33 (ab_dd tk_fo_rankAhead 22 rfl) rfl 99 (by decide) (nI_nm1 (by omega)) ?_
          refine x_iload_n 34 3 (ab_dd tk_fo_rankAhead 23 rfl) rfl rfl rfl ?_
          refine x_iconst 35 4 (ab_dd tk_fo_rankAhead 24 rfl) rfl (by decide) (x_topn 4 rfl ?_)
          refine x_idiv 36 (ab_dd tk_fo_rankAhead 25 rfl) rfl (by decide) (x_topn (e / 4) (pk_div (by omega) (by omega) (by omega)) ?_)
          refine x_istore 38 [some (.ref F), some (.int (nI (Q i))), some (.int (nI 0)), some (.int (nI e)), some (.int (nI l)), some (.int (nI (e / 4)))] 5 (ab_dd tk_fo_rankAhead 26 rfl) rfl (by decide) rfl ?_
          refine x_iload_n 39 2 (ab_dd tk_fo_rankAhead 27 rfl) rfl rfl rfl ?_
          refine x_iconst 40 1 (ab_dd tk_fo_rankAhead 28 rfl) rfl (by decide) (x_topn 1 rfl ?_)
          refine x_icmp_ne_t 54 (ab_dd tk_fo_rankAhead 29 rfl) (by decide) (fun z => absurd ((nI_eq (a := 0) (b := 1) (by omega) (by omega)).mp z) (show ¬ (0 = 1) by decide)) ?_
          refine x_iload_n 55 2 (ab_dd tk_fo_rankAhead 38 rfl) rfl rfl rfl ?_
          refine x_if_eq_t 68 (ab_dd tk_fo_rankAhead 39 rfl) (by decide) ((nI_eq (a := 0) (b := 0) (by omega) (by omega)).mpr (show 0 = 0 by rfl)) ?_
          refine x_aload_n 69 0 (ab_dd tk_fo_rankAhead 45 rfl) rfl rfl rfl ?_
          refine x_iconst 70 2 (ab_dd tk_fo_rankAhead 46 rfl) rfl (by decide) (x_topn 2 rfl ?_)
          refine x_iload 72 5 (ab_dd tk_fo_rankAhead 47 rfl) rfl rfl ?_
          refine x_imul 73 (ab_dd tk_fo_rankAhead 48 rfl) rfl (x_topn (2 * (e / 4)) (pk_mul _ _) ?_)
          refine x_iload_n 74 2 (ab_dd tk_fo_rankAhead 49 rfl) rfl rfl rfl ?_
          refine x_iadd 75 (ab_dd tk_fo_rankAhead 50 rfl) rfl (x_topn ((2 * (e / 4)) + 0) (nI_add _ _) ?_)
          refine x_aload_n 76 0 (ab_dd tk_fo_rankAhead 51 rfl) rfl rfl rfl ?_
          refine t_getP 79 (F + 1) (ab_dd tk_fo_rankAhead 52 rfl) rfl F_fo_24 (by have := hF1.1; omega) (Nat.lt_of_le_of_lt (Nat.le_add_right F 5) hF1.2.1) hF1.2.2.1 rfl hF1.2.2.2.2.2.2.2.2.1 ?_
          refine x_iload_n 80 1 (ab_dd tk_fo_rankAhead 53 rfl) rfl rfl rfl ?_
          refine t_iald 81 (Q i) (ab_dd tk_fo_rankAhead 54 rfl) rfl (by have := hF1.1; omega) (Nat.lt_of_le_of_lt (Nat.add_le_add_left (by decide) F) hF1.2.1) hF1.2.2.2.1 rfl (by omega) (by omega) (x_topn n (by rw [hQ1.2.2 _ hxT, ← hQi, hn]; rfl) ?_)
          refine x_iconst 82 1 (ab_dd tk_fo_rankAhead 55 rfl) rfl (by decide) (x_topn 1 rfl ?_)
          refine x_iadd 83 (ab_dd tk_fo_rankAhead 56 rfl) rfl (x_topn (n + 1) (nI_add _ _) ?_)
          have hF2 := hF1
          have hQ2 := hQ1
          refine t_callV 86 M_fo_enqueue 0 2 [_, _] (ab_dd tk_fo_rankAhead 57 rfl) rfl (by first | decide | omega) K_fo_enqueue V_fo_enqueue.1 V_fo_enqueue.2 L_fo_73 rfl (Nat.le_of_ble_eq_true rfl) (by have := hF1.1; omega) (Nat.lt_of_le_of_lt (Nat.le_add_right F 5) hF1.2.1) hF1.2.2.1 rfl (c_fo_enqueue hF2 hTN hQ2 (2 * (e / 4)) (n + 1) (by omega) (fun v => hRb _ v (by omega)) (fun z => hqb _ (by omega) z (by
            rw [(tn_e _).1, (tn_e _).2, hrk]
            have z := (hM.1.2.2.2.2.2.1 (Q1 i) n (hM.1.1 i hM.2.1).1 hn).1
            rw [hxo, (tn_o j).1, (tn_o j).2] at z
            exact Or.inr ⟨e % 4, j, by omega, p2, z⟩))) (fun v1 w1 h1 => ?_)
          obtain ⟨rfl, S3, Q3, q3, R3, rfl, hE3, hQ3, hch, hfr3⟩ := h1
          have hF3 : foK S3 F N := hF2.eq hE3
          refine x_aload_n 87 0 (ab_dd tk_fo_rankAhead 58 rfl) rfl rfl rfl ?_
          refine t_getP 90 (F + 5) (ab_dd tk_fo_rankAhead 59 rfl) rfl F_fo_37 (by have := hF3.1; omega) (Nat.lt_of_le_of_lt (Nat.le_add_right F 5) hF3.2.1) hF3.2.2.1 rfl hF3.2.2.2.2.2.2.2.2.2.2.2.2.1 ?_
          refine x_iload_n 91 3 (ab_dd tk_fo_rankAhead 60 rfl) rfl rfl rfl ?_
          refine t_iald 92 e (ab_dd tk_fo_rankAhead 61 rfl) rfl (by have := hF3.1; omega) (Nat.lt_of_le_of_lt (Nat.add_le_add_left (by decide) F) hF3.2.1) hF3.2.2.2.2.2.2.2.1 rfl (by omega) (by omega) (x_topx (encN (pv g j e)) ((congrFun (hE3.2.2.1 (F + 5) (by simp)) _).trans hnx) ?_)
          refine x_istore_n 93 [some (.ref F), some (.int (nI (Q i))), some (.int (nI 0)), some (.int ((encN (pv g j e)))), some (.int (nI l)), some (.int (nI (e / 4)))] 3 (ab_dd tk_fo_rankAhead 62 rfl) rfl rfl (by decide) rfl ?_
          refine xn_iinc 96 4 (fun y => [some (.ref F), some (.int (nI (Q i))), some (.int (nI 0)), some (.int ((encN (pv g j e)))), some (.int y), some (.int (nI (e / 4)))]) (l + 1) (ab_dd tk_fo_rankAhead 63 rfl) rfl (by decide) rfl (fun _ => rfl) (iinc_p 1) ?_
          refine x_goto 18 (ab_dd tk_fo_rankAhead 64 rfl) (by decide) ?_
          have hM3 : fcM g W T Q3 q3 i R3 pd j e false := hM.odd hg hpv hm (by rw [hrk]; exact hch)
          have hQ3i : Q3 i = Q i := by
            rcases hch with ⟨-, c2, -, -⟩ | ⟨-, c2, -, -⟩
            · rw [c2]; exact hQi
            · rw [c2, up1_o (by omega)]; exact hQi
          exact ih e (l + 1) (by omega) S3 Q3 q3 R3 _ (by omega) (by omega) (hE1.tr (hE3.mono (by simp))) hQ3 hM3 hQ3i (fun s hs => by
            rw [hE3.2.2.1 (F + 3) (by simp), hes1 s hs, ← hQi, hxo]; exact congrArg nI es_odd) (fun j' hj' => (hfr3 j' hj').trans (hfr j' hj'))
        | true =>
          have hxe : Q1 i = 2 * j := hM.2.2.1
          have hxq : Q i = 2 * j := by rw [← hQi]; exact hxe
          have hnp := hM.npd
          rw [hxe] at hnp
          obtain ⟨s1, s2⟩ := es_step (g := g) (pd := pd) hnp hpv
          have hes4 := es_le (g := g) pd (2 * j) m (e / 4)
          have hve : sI S1 (F + 3) (e / 4) = nI (es g pd (2 * j) m (e / 4)) := by rw [hes1 _ he4, hxq]
          have hF2 : foK (pI S1 (F + 3) (e / 4) (nI (es g pd (2 * j) e (e / 4)))) F N := hF1.eq (l := [F + 3]) (sEq.rf.pI (by simp))
          have hE2 : sEq [F + 3] S1 (pI S1 (F + 3) (e / 4) (nI (es g pd (2 * j) e (e / 4)))) := sEq.rf.pI (by simp)
          have hQ2 : foQ (pI S1 (F + 3) (e / 4) (nI (es g pd (2 * j) e (e / 4)))) F T Q1 q1 R1 := hQ1.eq hE2 (by simp) (by simp) (by simp)
          have hes2 : ∀ s, s < T → sI (pI S1 (F + 3) (e / 4) (nI (es g pd (2 * j) e (e / 4)))) (F + 3) s = nI (es g pd (Q i) e s) := fun s hs => by
            rw [hxq]
            by_cases z : s = e / 4
            · rw [z, gI_s]
            · rw [gI_k z, hes1 s hs, hxq, s2 s z]
          show ab_Ex _ _ _ _ [some (.ref F), some (.int (nI (Q i))), some (.int (nI 1)), some (.int (nI e)), some (.int (nI l)), none] _ _ _
          refine x_iload 20 4 (ab_dd tk_fo_rankAhead 15 rfl) rfl rfl ?_
          refine x_aload_n 21 0 (ab_dd tk_fo_rankAhead 16 rfl) rfl rfl rfl ?_
          refine t_getP 24 (F + 5) (ab_dd tk_fo_rankAhead 17 rfl) rfl F_fo_37 (by have := hF1.1; omega) (Nat.lt_of_le_of_lt (Nat.le_add_right F 5) hF1.2.1) hF1.2.2.1 rfl hF1.2.2.2.2.2.2.2.2.2.2.2.2.1 ?_
          refine t_alen 25 0 (ab_dd tk_fo_rankAhead 18 rfl) rfl (by have := hF1.1; omega) (Nat.lt_of_le_of_lt (Nat.add_le_add_left (by decide) F) hF1.2.1) rfl hF1.2.2.2.2.2.2.2.1 ?_
          refine x_icmp_ge_f 28 (ab_dd tk_fo_rankAhead 19 rfl) rfl 99 (by decide) (fun z => absurd ((nI_leI (a := (N * 4)) (b := l) (by omega) (by omega)).mp z) (show ¬ ((N * 4) ≤ l) by omega)) ?_
          refine x_iload_n 29 3 (ab_dd tk_fo_rankAhead 20 rfl) rfl rfl rfl ?_
          refine x_iconst 30 (-1) (ab_dd tk_fo_rankAhead 21 rfl) rfl (by decide) ?_
          refine x_icmp_eq_f 33 (ab_dd tk_fo_rankAhead 22 rfl) rfl 99 (by decide) (nI_nm1 (by omega)) ?_
          refine x_iload_n 34 3 (ab_dd tk_fo_rankAhead 23 rfl) rfl rfl rfl ?_
          refine x_iconst 35 4 (ab_dd tk_fo_rankAhead 24 rfl) rfl (by decide) (x_topn 4 rfl ?_)
          refine x_idiv 36 (ab_dd tk_fo_rankAhead 25 rfl) rfl (by decide) (x_topn (e / 4) (pk_div (by omega) (by omega) (by omega)) ?_)
          refine x_istore 38 [some (.ref F), some (.int (nI (Q i))), some (.int (nI 1)), some (.int (nI e)), some (.int (nI l)), some (.int (nI (e / 4)))] 5 (ab_dd tk_fo_rankAhead 26 rfl) rfl (by decide) rfl ?_
          refine x_iload_n 39 2 (ab_dd tk_fo_rankAhead 27 rfl) rfl rfl rfl ?_
          refine x_iconst 40 1 (ab_dd tk_fo_rankAhead 28 rfl) rfl (by decide) (x_topn 1 rfl ?_)
          refine x_icmp_ne_f 43 (ab_dd tk_fo_rankAhead 29 rfl) rfl 54 (by decide) ((nI_eq (a := 1) (b := 1) (by omega) (by omega)).mpr (show 1 = 1 by rfl)) ?_
          refine x_aload_n 44 0 (ab_dd tk_fo_rankAhead 30 rfl) rfl rfl rfl ?_
          refine t_getP 47 (F + 3) (ab_dd tk_fo_rankAhead 31 rfl) rfl F_fo_31 (by have := hF1.1; omega) (Nat.lt_of_le_of_lt (Nat.le_add_right F 5) hF1.2.1) hF1.2.2.1 rfl hF1.2.2.2.2.2.2.2.2.2.2.1 ?_
          refine x_iload 49 5 (ab_dd tk_fo_rankAhead 32 rfl) rfl rfl ?_
          refine x_dup2 50 (ab_dd tk_fo_rankAhead 33 rfl) rfl rfl rfl ?_
          refine t_iald 51 (e / 4) (ab_dd tk_fo_rankAhead 34 rfl) rfl (by have := hF1.1; omega) (Nat.lt_of_le_of_lt (Nat.add_le_add_left (by decide) F) hF1.2.1) hF1.2.2.2.2.2.1 rfl (by omega) (by omega) (x_topn (es g pd (2 * j) m (e / 4)) hve ?_)
          refine x_iconst 52 1 (ab_dd tk_fo_rankAhead 35 rfl) rfl (by decide) (x_topn 1 rfl ?_)
          refine x_isub 53 (ab_dd tk_fo_rankAhead 36 rfl) rfl (x_topn (es g pd (2 * j) e (e / 4)) (by rw [pk_sub (by omega)]; exact congrArg nI (by omega)) ?_)
          refine t_iast 54 (e / 4) (ab_dd tk_fo_rankAhead 37 rfl) rfl (by have := hF1.1; omega) (Nat.lt_of_le_of_lt (Nat.add_le_add_left (by decide) F) hF1.2.1) hF1.2.2.2.2.2.1 rfl (by omega) (by omega) ?_
          refine x_iload_n 55 2 (ab_dd tk_fo_rankAhead 38 rfl) rfl rfl rfl ?_
          refine x_if_eq_f 58 (ab_dd tk_fo_rankAhead 39 rfl) rfl 68 (by decide) (fun z => absurd ((nI_eq (a := 1) (b := 0) (by omega) (by omega)).mp z) (show ¬ (1 = 0) by decide)) ?_
          refine x_aload_n 59 0 (ab_dd tk_fo_rankAhead 40 rfl) rfl rfl rfl ?_
          refine t_getP 62 (F + 3) (ab_dd tk_fo_rankAhead 41 rfl) rfl F_fo_31 (by have := hF1.1; omega) (Nat.lt_of_le_of_lt (Nat.le_add_right F 5) hF1.2.1) hF1.2.2.1 rfl hF1.2.2.2.2.2.2.2.2.2.2.1 ?_
          refine x_iload 64 5 (ab_dd tk_fo_rankAhead 42 rfl) rfl rfl ?_
          refine t_iald 65 (e / 4) (ab_dd tk_fo_rankAhead 43 rfl) rfl (by have := hF1.1; omega) (Nat.lt_of_le_of_lt (Nat.add_le_add_left (by decide) F) hF1.2.1) hF1.2.2.2.2.2.1 rfl (by omega) (by omega) (x_topn (es g pd (2 * j) e (e / 4)) gI_s ?_)
          refine xn_if_ne 68 86 (ab_dd tk_fo_rankAhead 44 rfl) rfl (by decide) (by omega) (fun h65 => ?_) (fun h65 => ?_)
          · refine x_aload_n 87 0 (ab_dd tk_fo_rankAhead 58 rfl) rfl rfl rfl ?_
            refine t_getP 90 (F + 5) (ab_dd tk_fo_rankAhead 59 rfl) rfl F_fo_37 (by have := hF1.1; omega) (Nat.lt_of_le_of_lt (Nat.le_add_right F 5) hF1.2.1) hF1.2.2.1 rfl hF1.2.2.2.2.2.2.2.2.2.2.2.2.1 ?_
            refine x_iload_n 91 3 (ab_dd tk_fo_rankAhead 60 rfl) rfl rfl rfl ?_
            refine t_iald 92 e (ab_dd tk_fo_rankAhead 61 rfl) rfl (by have := hF1.1; omega) (Nat.lt_of_le_of_lt (Nat.add_le_add_left (by decide) F) hF1.2.1) hF1.2.2.2.2.2.2.2.1 rfl (by omega) (by omega) (x_topx (encN (pv g j e)) ((congrFun (gI_o (by omega)) _).trans hnx) ?_)
            refine x_istore_n 93 [some (.ref F), some (.int (nI (Q i))), some (.int (nI 1)), some (.int ((encN (pv g j e)))), some (.int (nI l)), some (.int (nI (e / 4)))] 3 (ab_dd tk_fo_rankAhead 62 rfl) rfl rfl (by decide) rfl ?_
            refine xn_iinc 96 4 (fun y => [some (.ref F), some (.int (nI (Q i))), some (.int (nI 1)), some (.int ((encN (pv g j e)))), some (.int y), some (.int (nI (e / 4)))]) (l + 1) (ab_dd tk_fo_rankAhead 63 rfl) rfl (by decide) rfl (fun _ => rfl) (iinc_p 1) ?_
            refine x_goto 18 (ab_dd tk_fo_rankAhead 64 rfl) (by decide) ?_
            have hM3 : fcM g W T Q1 q1 i R1 pd j e true := hM.even hg hpv hm (Or.inl ⟨by omega, rfl, rfl, rfl⟩)
            exact ih e (l + 1) (by omega) _ Q1 q1 R1 _ (by omega) (by omega) (hE1.tr (hE2.mono (by simp))) hQ2 hM3 hQi hes2 (fun j' hj' => (congrFun (gI_o (by omega)) j').trans (hfr j' hj'))
          · refine x_aload_n 69 0 (ab_dd tk_fo_rankAhead 45 rfl) rfl rfl rfl ?_
            refine x_iconst 70 2 (ab_dd tk_fo_rankAhead 46 rfl) rfl (by decide) (x_topn 2 rfl ?_)
            refine x_iload 72 5 (ab_dd tk_fo_rankAhead 47 rfl) rfl rfl ?_
            refine x_imul 73 (ab_dd tk_fo_rankAhead 48 rfl) rfl (x_topn (2 * (e / 4)) (pk_mul _ _) ?_)
            refine x_iload_n 74 2 (ab_dd tk_fo_rankAhead 49 rfl) rfl rfl rfl ?_
            refine x_iadd 75 (ab_dd tk_fo_rankAhead 50 rfl) rfl (x_topn ((2 * (e / 4)) + 1) (nI_add _ _) ?_)
            refine x_aload_n 76 0 (ab_dd tk_fo_rankAhead 51 rfl) rfl rfl rfl ?_
            refine t_getP 79 (F + 1) (ab_dd tk_fo_rankAhead 52 rfl) rfl F_fo_24 (by have := hF1.1; omega) (Nat.lt_of_le_of_lt (Nat.le_add_right F 5) hF1.2.1) hF1.2.2.1 rfl hF1.2.2.2.2.2.2.2.2.1 ?_
            refine x_iload_n 80 1 (ab_dd tk_fo_rankAhead 53 rfl) rfl rfl rfl ?_
            refine t_iald 81 (Q i) (ab_dd tk_fo_rankAhead 54 rfl) rfl (by have := hF1.1; omega) (Nat.lt_of_le_of_lt (Nat.add_le_add_left (by decide) F) hF1.2.1) hF1.2.2.2.1 rfl (by omega) (by omega) (x_topn n ((congrFun (gI_o (by omega)) _).trans (by rw [hQ1.2.2 _ hxT, ← hQi, hn]; rfl)) ?_)
            refine x_iconst 82 1 (ab_dd tk_fo_rankAhead 55 rfl) rfl (by decide) (x_topn 1 rfl ?_)
            refine x_iadd 83 (ab_dd tk_fo_rankAhead 56 rfl) rfl (x_topn (n + 1) (nI_add _ _) ?_)
            refine t_callV 86 M_fo_enqueue 0 2 [_, _] (ab_dd tk_fo_rankAhead 57 rfl) rfl (by first | decide | omega) K_fo_enqueue V_fo_enqueue.1 V_fo_enqueue.2 L_fo_73 rfl (Nat.le_of_ble_eq_true rfl) (by have := hF1.1; omega) (Nat.lt_of_le_of_lt (Nat.le_add_right F 5) hF1.2.1) hF1.2.2.1 rfl (c_fo_enqueue hF2 hTN hQ2 (2 * (e / 4) + 1) (n + 1) (by omega) (fun v => hRb _ v (by omega)) (fun z => hqb _ (by omega) z (by
              rw [(tn_o _).1, (tn_o _).2]
              refine Or.inr (fun d j' hd ge => ?_)
              have hR : ∃ n', R1 (2 * j') = some n' ∧ n' ≤ rk R1 (Q1 i) := by
                rcases es_0.mp h65 d j' hd ge with z | ⟨z, _⟩
                · obtain ⟨k, k1, k2⟩ := (hM.1.2.2.2.2.2.2.1 _).mp z
                  obtain ⟨-, n', r1, -⟩ := hM.1.1 k (by omega)
                  have := hM.1.2.2.2.1 k i k1 hik
                  rw [rk_s r1] at this
                  rw [k2] at r1
                  exact ⟨n', r1, this⟩
                · rw [z, ← hxe]
                  exact ⟨n, hn, by rw [hrk]; exact Nat.le_refl _⟩
              obtain ⟨n', r1, r2⟩ := hR
              have hjT2 := hg _ d j' he4 hd ge
              have z := (hM.1.2.2.2.2.2.1 (2 * j') n' (by omega) r1).1
              rw [(tn_e j').1, (tn_e j').2] at z
              exact fw_mono r2 z))) (fun v1 w1 h1 => ?_)
            obtain ⟨rfl, S3, Q3, q3, R3, rfl, hE3, hQ3, hch, hfr3⟩ := h1
            have hF3 : foK S3 F N := hF2.eq hE3
            refine x_aload_n 87 0 (ab_dd tk_fo_rankAhead 58 rfl) rfl rfl rfl ?_
            refine t_getP 90 (F + 5) (ab_dd tk_fo_rankAhead 59 rfl) rfl F_fo_37 (by have := hF3.1; omega) (Nat.lt_of_le_of_lt (Nat.le_add_right F 5) hF3.2.1) hF3.2.2.1 rfl hF3.2.2.2.2.2.2.2.2.2.2.2.2.1 ?_
            refine x_iload_n 91 3 (ab_dd tk_fo_rankAhead 60 rfl) rfl rfl rfl ?_
            refine t_iald 92 e (ab_dd tk_fo_rankAhead 61 rfl) rfl (by have := hF3.1; omega) (Nat.lt_of_le_of_lt (Nat.add_le_add_left (by decide) F) hF3.2.1) hF3.2.2.2.2.2.2.2.1 rfl (by omega) (by omega) (x_topx (encN (pv g j e)) ((congrFun (hE3.2.2.1 (F + 5) (by simp)) _).trans ((congrFun (gI_o (by omega)) _).trans hnx)) ?_)
            refine x_istore_n 93 [some (.ref F), some (.int (nI (Q i))), some (.int (nI 1)), some (.int ((encN (pv g j e)))), some (.int (nI l)), some (.int (nI (e / 4)))] 3 (ab_dd tk_fo_rankAhead 62 rfl) rfl rfl (by decide) rfl ?_
            refine xn_iinc 96 4 (fun y => [some (.ref F), some (.int (nI (Q i))), some (.int (nI 1)), some (.int ((encN (pv g j e)))), some (.int y), some (.int (nI (e / 4)))]) (l + 1) (ab_dd tk_fo_rankAhead 63 rfl) rfl (by decide) rfl (fun _ => rfl) (iinc_p 1) ?_
            refine x_goto 18 (ab_dd tk_fo_rankAhead 64 rfl) (by decide) ?_
            have hM3 : fcM g W T Q3 q3 i R3 pd j e true := hM.even hg hpv hm (Or.inr ⟨h65, by rw [hrk]; exact hch⟩)
            have hQ3i : Q3 i = Q i := by
              rcases hch with ⟨-, c2, -, -⟩ | ⟨-, c2, -, -⟩
              · rw [c2]; exact hQi
              · rw [c2, up1_o (by omega)]; exact hQi
            exact ih e (l + 1) (by omega) S3 Q3 q3 R3 _ (by omega) (by omega) ((hE1.tr (hE2.mono (by simp))).tr (hE3.mono (by simp))) hQ3 hM3 hQ3i (fun s hs => by
              rw [hE3.2.2.1 (F + 3) (by simp)]; exact hes2 s hs) (fun j' hj' => (hfr3 j' hj').trans ((congrFun (gI_o (by omega)) j').trans (hfr j' hj')))
  refine x_iconst 1 1 (ab_dd tk_fo_rankAhead 0 rfl) rfl (by decide) (x_topn 1 rfl ?_)
  refine x_iload_n 2 1 (ab_dd tk_fo_rankAhead 1 rfl) rfl rfl rfl ?_
  refine x_iconst 3 2 (ab_dd tk_fo_rankAhead 2 rfl) rfl (by decide) (x_topn 2 rfl ?_)
  refine x_irem 4 (ab_dd tk_fo_rankAhead 3 rfl) rfl (by decide) (x_topn ((Q i) % 2) (pk_rem (by omega) (by omega) (by omega)) ?_)
  refine x_isub 5 (ab_dd tk_fo_rankAhead 4 rfl) rfl (x_topn (if b = true then 1 else 0) (by rw [pk_sub (by omega)]; exact congrArg nI hj3) ?_)
  refine x_istore_n 6 [some (.ref F), some (.int (nI (Q i))), some (.int (nI (if b = true then 1 else 0))), none, none, none] 2 (ab_dd tk_fo_rankAhead 5 rfl) rfl rfl (by decide) rfl ?_
  refine x_aload_n 7 0 (ab_dd tk_fo_rankAhead 6 rfl) rfl rfl rfl ?_
  refine t_getP 10 (F + 4) (ab_dd tk_fo_rankAhead 7 rfl) rfl F_fo_34 (by have := hF.1; omega) (Nat.lt_of_le_of_lt (Nat.le_add_right F 5) hF.2.1) hF.2.2.1 rfl hF.2.2.2.2.2.2.2.2.2.2.2.1 ?_
  refine x_iload_n 11 1 (ab_dd tk_fo_rankAhead 8 rfl) rfl rfl rfl ?_
  refine x_iconst 12 2 (ab_dd tk_fo_rankAhead 9 rfl) rfl (by decide) (x_topn 2 rfl ?_)
  refine x_idiv 13 (ab_dd tk_fo_rankAhead 10 rfl) rfl (by decide) (x_topn ((Q i) / 2) (pk_div (by omega) (by omega) (by omega)) ?_)
  refine t_iald 14 j (ab_dd tk_fo_rankAhead 11 rfl) rfl (by have := hF.1; omega) (Nat.lt_of_le_of_lt (Nat.add_le_add_left (by decide) F) hF.2.1) hF.2.2.2.2.2.2.1 (congrArg nI hj2) (by omega) (by omega) (x_topx (encN (pv g j (4 * T))) (hE.1 j hjT) ?_)
  refine x_istore_n 15 [some (.ref F), some (.int (nI (Q i))), some (.int (nI (if b = true then 1 else 0))), some (.int ((encN (pv g j (4 * T))))), none, none] 3 (ab_dd tk_fo_rankAhead 12 rfl) rfl rfl (by decide) rfl ?_
  refine x_iconst 16 0 (ab_dd tk_fo_rankAhead 13 rfl) rfl (by decide) (x_topn 0 rfl ?_)
  refine x_istore 18 [some (.ref F), some (.int (nI (Q i))), some (.int (nI (if b = true then 1 else 0))), some (.int ((encN (pv g j (4 * T))))), some (.int (nI 0)), none] 4 (ab_dd tk_fo_rankAhead 14 rfl) rfl (by decide) rfl ?_
  exact loop (4 * T) (4 * T) 0 (Nat.le_refl _) S Q q R _ (Nat.le_refl _) (by omega) sEq.rf hQ (fcM.start hI hi hxj hjT) rfl (fun s hs => by rw [hes s hs]; exact congrArg nI (es_far hs)) (fun _ _ => rfl)
