/-! ===== seatings: the constructor ===== -/
def seF (S : ab_S) (a : Nat) : Prop := (∀ q r, q < 24 → r < 4 → sI S (a + 1) (q * 4 + r) = nI (qSe q r) ∧ sI S (a + 2) (q * 4 + r) = nI (qRi q r) ∧ sI S (a + 3) (q * 4 + r) = nI (qCh q r)) ∧ ∀ q, q < 24 → sI S (a + 4) q = nI (qO q)
/-- the first k ways are noted -/
def seN (S : ab_S) (a k : Nat) : Prop := (∀ q r, q < k → r < 4 → sI S (a + 1) (q * 4 + r) = nI (qSe q r) ∧ sI S (a + 2) (q * 4 + r) = nI (qRi q r)) ∧ (∀ q, q < k → sI S (a + 4) q = nI (qO q)) ∧ ∀ q, q < k → sI S (a + 5) (qO q) = nI q
def tb_se_init : List (Nat × Instr × Nat) := [(0, .aload_n 0, 1), (1, .invokespecial 3, 3), (4, .aload_n 0, 1), (5, .bipush 96, 2), (7, .newarray .int, 2), (9, .putfield 9, 3), (12, .aload_n 0, 1), (13, .bipush 96, 2), (15, .newarray .int, 2), (17, .putfield 15, 3), (20, .aload_n 0, 1), (21, .bipush 96, 2), (23, .newarray .int, 2), (25, .putfield 18, 3), (28, .aload_n 0, 1), (29, .bipush 24, 2), (31, .newarray .int, 2), (33, .putfield 21, 3), (36, .sipush 256, 3), (39, .newarray .int, 2), (41, .astore_n 1, 1), (42, .iconst 0, 1), (43, .istore_n 2, 1), (44, .iconst 1, 1), (45, .istore_n 3, 1), (46, .iload_n 3, 1), (47, .iconst 4, 1), (48, .if_icmp .gt 56, 3), (51, .iconst 0, 1), (52, .istore 4, 2), (54, .iload 4, 2), (56, .sipush 256, 3), (59, .if_icmp .ge 39, 3), (62, .iload 4, 2), (64, .iload_n 3, 1), (65, .invokestatic 24, 3), (68, .ifCond .eq 24, 3), (71, .iload_n 2, 1), (72, .bipush 24, 2), (74, .if_icmp .ge 18, 3), (77, .aload_n 1, 1), (78, .iload 4, 2), (80, .iload_n 2, 1), (81, .iastore, 1), (82, .aload_n 0, 1), (83, .iload_n 2, 1), (84, .iload 4, 2), (86, .invokevirtual 28, 3), (89, .iinc 2 1, 3), (92, .iinc 4 1, 3), (95, .goto (-41), 3), (98, .iinc 3 1, 3), (101, .goto (-55), 3), (104, .iconst 0, 1), (105, .istore_n 3, 1), (106, .iload_n 3, 1), (107, .bipush 24, 2), (109, .if_icmp .ge 44, 3), (112, .iconst 0, 1), (113, .istore 4, 2), (115, .iload 4, 2), (117, .iconst 4, 1), (118, .if_icmp .ge 29, 3), (121, .aload_n 0, 1), (122, .getfield 18, 3), (125, .iload_n 3, 1), (126, .iconst 4, 1), (127, .imul, 1), (128, .iload 4, 2), (130, .iadd, 1), (131, .aload_n 1, 1), (132, .aload_n 0, 1), (133, .iload_n 3, 1), (134, .iload 4, 2), (136, .invokevirtual 32, 3), (139, .iaload, 1), (140, .iastore, 1), (141, .iinc 4 1, 3), (144, .goto (-29), 3), (147, .iinc 3 1, 3), (150, .goto (-44), 3), (153, .return_, 1)]
theorem tk_se_init : ∀ q ∈ tb_se_init, decode M_se_init.2.1 q.1 = .ok q.2 := by decide +kernel
theorem c_se_init {G : ab_G} {S : ab_S} {a : Nat} (ha : 50 ≤ a) (hn : sn S = a + 1) (hK : sK S a = .inr 7) : ab_C G 2 M_se_init [.ref a] (sw S) (fun v w' => v = none ∧ ∃ S', w' = sw S' ∧ nwE a S S' 5 (0 + 96 + 96 + 96 + 24 + 256) ∧ seK S' a ∧ sK S' (a + 5) = .inl (.int, 256) ∧ seF S' a) := by
  refine x_enter [some (.ref a), none, none, none, none] (by decide) (Nat.le_of_ble_eq_true rfl) rfl (fun v w' h => by obtain ⟨rfl, -⟩ := h; trivial) ?_
  have hn0 : a < sn S := by omega
  have h50 : 50 ≤ sn S := by omega
  have chg : ∀ (m q : Nat), q + m = 24 → ∀ (S1 : ab_S) (y2 y4 : Option Value), nwE a S S1 5 (0 + 96 + 96 + 96 + 24 + 256) → seK S1 a → sK S1 (a + 5) = .inl (.int, 256) → (∀ j, j < q * 4 → sI S1 (a + 3) j = nI (qCh (j / 4) (j % 4))) → seN S1 a 24 → ab_Ex G 2 M_se_init 106 [some (.ref a), some (.ref (a + 5)), y2, some (.int (nI q)), y4] [] (sw S1) (fun v w' => v = none ∧ ∃ S', w' = sw S' ∧ nwE a S S' 5 (0 + 96 + 96 + 96 + 24 + 256) ∧ seK S' a ∧ sK S' (a + 5) = .inl (.int, 256) ∧ seF S' a) := by
    intro m
    induction m with
    | zero =>
      intro q hq S1 y2 y4 hE1 hS1 hk5 hch hno
      refine x_forget 2 (x_forget 4 ?_)
      refine x_iload_n 107 3 (ab_dd tk_se_init 55 rfl) rfl rfl rfl ?_
      refine x_bipush 109 24 (ab_dd tk_se_init 56 rfl) rfl (by decide) (x_topn 24 rfl ?_)
      refine x_icmp_ge_t 153 (ab_dd tk_se_init 57 rfl) (by decide) ((nI_leI (a := 24) (b := q) (by omega) (by omega)).mpr (show 24 ≤ q by omega)) ?_
      exact x_vret (ab_dd tk_se_init 81 rfl) ⟨rfl, S1, rfl, hE1, hS1, hk5, ⟨fun q' r h1 h2 => ⟨(hno.1 q' r h1 h2).1, (hno.1 q' r h1 h2).2, by have z := hch (q' * 4 + r) (by omega); rw [show (q' * 4 + r) / 4 = q' by omega, show (q' * 4 + r) % 4 = r by omega] at z; exact z⟩, fun q' h1 => hno.2.1 q' h1⟩⟩
    | succ m ih =>
      intro q hq S1 y2 y4 hE1 hS1 hk5 hch hno
      refine x_forget 2 (x_forget 4 ?_)
      have inner : ∀ (u d : Nat), d + u = 4 → ∀ S1 : ab_S, nwE a S S1 5 (0 + 96 + 96 + 96 + 24 + 256) → seK S1 a → sK S1 (a + 5) = .inl (.int, 256) → (∀ j, j < q * 4 + d → sI S1 (a + 3) j = nI (qCh (j / 4) (j % 4))) → seN S1 a 24 → ab_Ex G 2 M_se_init 115 [some (.ref a), some (.ref (a + 5)), none, some (.int (nI q)), some (.int (nI d))] [] (sw S1) (fun v w' => v = none ∧ ∃ S', w' = sw S' ∧ nwE a S S' 5 (0 + 96 + 96 + 96 + 24 + 256) ∧ seK S' a ∧ sK S' (a + 5) = .inl (.int, 256) ∧ seF S' a) := by
        intro u
        induction u with
        | zero =>
          intro d hd S1 hE1 hS1 hk5 hch hno
          have hd4 : d = 4 := by omega
          subst hd4
          refine x_iload 117 4 (ab_dd tk_se_init 60 rfl) rfl rfl ?_
          refine x_iconst 118 4 (ab_dd tk_se_init 61 rfl) rfl (by decide) (x_topn 4 rfl ?_)
          refine x_icmp_ge_t 147 (ab_dd tk_se_init 62 rfl) (by decide) ((nI_leI (a := 4) (b := 4) (by omega) (by omega)).mpr (show 4 ≤ 4 by omega)) ?_
          refine xn_iinc 150 3 (fun y => [some (.ref a), some (.ref (a + 5)), none, some (.int y), some (.int (nI 4))]) (q + 1) (ab_dd tk_se_init 79 rfl) rfl (by decide) rfl (fun _ => rfl) (iinc_p 1) ?_
          refine x_goto 106 (ab_dd tk_se_init 80 rfl) (by decide) ?_
          exact ih (q + 1) (by omega) S1 _ _ hE1 hS1 hk5 (fun j hj => hch j (by omega)) hno
        | succ u ihu =>
          intro d hd S1 hE1 hS1 hk5 hch hno
          have hn5 : a + 5 < sn S1 := by have := hE1.2.1; omega
          obtain ⟨b1, b2, b3⟩ := obN_ok (q := q) (d := d) (by omega) (by omega)
          have hql := qO_lt (qCh q d) b2
          refine x_iload 117 4 (ab_dd tk_se_init 60 rfl) rfl rfl ?_
          refine x_iconst 118 4 (ab_dd tk_se_init 61 rfl) rfl (by decide) (x_topn 4 rfl ?_)
          refine x_icmp_ge_f 121 (ab_dd tk_se_init 62 rfl) rfl 147 (by decide) (fun z => absurd ((nI_leI (a := 4) (b := d) (by omega) (by omega)).mp z) (show ¬ (4 ≤ d) by omega)) ?_
          refine x_aload_n 122 0 (ab_dd tk_se_init 63 rfl) rfl rfl rfl ?_
          refine t_getP 125 (a + 3) (ab_dd tk_se_init 64 rfl) rfl F_se_18 hS1.1 (Nat.lt_of_le_of_lt (Nat.le_add_right a 4) hS1.2.1) hS1.2.2.1 rfl hS1.2.2.2.2.2.2.2.2.2.1 ?_
          refine x_iload_n 126 3 (ab_dd tk_se_init 65 rfl) rfl rfl rfl ?_
          refine x_iconst 127 4 (ab_dd tk_se_init 66 rfl) rfl (by decide) (x_topn 4 rfl ?_)
          refine x_imul 128 (ab_dd tk_se_init 67 rfl) rfl (x_topn (q * 4) (pk_mul _ _) ?_)
          refine x_iload 130 4 (ab_dd tk_se_init 68 rfl) rfl rfl ?_
          refine x_iadd 131 (ab_dd tk_se_init 69 rfl) rfl (x_topn ((q * 4) + d) (nI_add _ _) ?_)
          refine x_aload_n 132 1 (ab_dd tk_se_init 70 rfl) rfl rfl rfl ?_
          refine x_aload_n 133 0 (ab_dd tk_se_init 71 rfl) rfl rfl rfl ?_
          refine x_iload_n 134 3 (ab_dd tk_se_init 72 rfl) rfl rfl rfl ?_
          refine x_iload 136 4 (ab_dd tk_se_init 73 rfl) rfl rfl ?_
          refine t_callV 139 M_se_orderBehind 0 2 [_, _] (ab_dd tk_se_init 74 rfl) rfl (by first | decide | omega) K_se_orderBehind V_se_orderBehind.1 V_se_orderBehind.2 L_se_32 rfl (Nat.le_of_ble_eq_true rfl) hS1.1 (Nat.lt_of_le_of_lt (Nat.le_add_right a 4) hS1.2.1) hS1.2.2.1 rfl (c_se_orderBehind hS1 q d (by omega) (by omega) (fun r hr => (hno.1 q r (by omega) hr).1)) (fun v1 w1 h1 => ?_)
          obtain ⟨rfl, rfl⟩ := h1
          refine t_iald 140 (qO (qCh q d)) (ab_dd tk_se_init 75 rfl) rfl (by omega) hn5 hk5 rfl (by omega) (by decide) (x_topn (qCh q d) (hno.2.2 _ b2) ?_)
          refine t_iast 141 ((q * 4) + d) (ab_dd tk_se_init 76 rfl) rfl (Nat.le_trans hS1.1 (Nat.le_add_right a 3)) (Nat.lt_of_le_of_lt (Nat.add_le_add_left (by decide) a) hS1.2.1) hS1.2.2.2.2.2.1 rfl (by omega) (by decide) ?_
          refine xn_iinc 144 4 (fun y => [some (.ref a), some (.ref (a + 5)), none, some (.int (nI q)), some (.int y)]) (d + 1) (ab_dd tk_se_init 77 rfl) rfl (by decide) rfl (fun _ => rfl) (iinc_p 1) ?_
          refine x_goto 115 (ab_dd tk_se_init 78 rfl) (by decide) ?_
          have hE3 : sEq [a + 3] S1 (pI S1 (a + 3) (q * 4 + d) (nI (qCh q d))) := sEq.rf.pI (by simp)
          exact ihu (d + 1) (by omega) _ (hE1.sE hE3 (fun y hy => by rw [List.mem_singleton] at hy; omega)) (hS1.eq hE3) hk5 (fun j hj => by
            by_cases e : j = q * 4 + d
            · rw [e, gI_s, show (q * 4 + d) / 4 = q by omega, show (q * 4 + d) % 4 = d by omega]
            · rw [gI_k e]; exact hch j (by omega)) (by
            unfold seN
            rw [gI_o (by omega), gI_o (by omega), gI_o (by omega), gI_o (by omega)]
            exact hno)
      refine x_iload_n 107 3 (ab_dd tk_se_init 55 rfl) rfl rfl rfl ?_
      refine x_bipush 109 24 (ab_dd tk_se_init 56 rfl) rfl (by decide) (x_topn 24 rfl ?_)
      refine x_icmp_ge_f 112 (ab_dd tk_se_init 57 rfl) rfl 153 (by decide) (fun z => absurd ((nI_leI (a := 24) (b := q) (by omega) (by omega)).mp z) (show ¬ (24 ≤ q) by omega)) ?_
      refine x_iconst 113 0 (ab_dd tk_se_init 58 rfl) rfl (by decide) (x_topn 0 rfl ?_)
      refine x_istore 115 [some (.ref a), some (.ref (a + 5)), none, some (.int (nI q)), some (.int (nI 0))] 4 (ab_dd tk_se_init 59 rfl) rfl (by decide) rfl ?_
      exact inner 4 0 (by omega) S1 hE1 hS1 hk5 hch hno
  have ways : ∀ (m n : Nat), n + m = 4 → ∀ (S1 : ab_S) (y4 : Option Value), nwE a S S1 5 (0 + 96 + 96 + 96 + 24 + 256) → seK S1 a → sK S1 (a + 5) = .inl (.int, 256) → seN S1 a (cW (256 * n)) → ab_Ex G 2 M_se_init 46 [some (.ref a), some (.ref (a + 5)), some (.int (nI (cW (256 * n)))), some (.int (nI (n + 1))), y4] [] (sw S1) (fun v w' => v = none ∧ ∃ S', w' = sw S' ∧ nwE a S S' 5 (0 + 96 + 96 + 96 + 24 + 256) ∧ seK S' a ∧ sK S' (a + 5) = .inl (.int, 256) ∧ seF S' a) := by
    intro m
    induction m with
    | zero =>
      intro n hn4 S1 y4 hE1 hS1 hk5 hno
      refine x_forget 4 ?_
      have hn4' : n = 4 := by omega
      subst hn4'
      rw [show 256 * 4 = 1024 from rfl, cW_e] at hno
      have hcl := cW_le (256 * 4)
      refine x_iload_n 47 3 (ab_dd tk_se_init 25 rfl) rfl rfl rfl ?_
      refine x_iconst 48 4 (ab_dd tk_se_init 26 rfl) rfl (by decide) (x_topn 4 rfl ?_)
      refine x_icmp_gt_t 104 (ab_dd tk_se_init 27 rfl) (by decide) ((nI_ltI (a := 4) (b := (4 + 1)) (by omega) (by omega)).mpr (show 4 < (4 + 1) by omega)) ?_
      refine x_iconst 105 0 (ab_dd tk_se_init 53 rfl) rfl (by decide) (x_topn 0 rfl ?_)
      refine x_istore_n 106 [some (.ref a), some (.ref (a + 5)), some (.int (nI (cW (256 * 4)))), some (.int (nI 0)), none] 3 (ab_dd tk_se_init 54 rfl) rfl rfl (by decide) rfl ?_
      exact chg 24 0 (by omega) S1 _ _ hE1 hS1 hk5 (fun j hj => absurd hj (by omega)) hno
    | succ m ih =>
      intro n hn4 S1 y4 hE1 hS1 hk5 hno
      refine x_forget 4 ?_
      have inner : ∀ (u x : Nat), x + u = 256 → ∀ S1 : ab_S, nwE a S S1 5 (0 + 96 + 96 + 96 + 24 + 256) → seK S1 a → sK S1 (a + 5) = .inl (.int, 256) → seN S1 a (cW (256 * n + x)) → ab_Ex G 2 M_se_init 54 [some (.ref a), some (.ref (a + 5)), some (.int (nI (cW (256 * n + x)))), some (.int (nI (n + 1))), some (.int (nI x))] [] (sw S1) (fun v w' => v = none ∧ ∃ S', w' = sw S' ∧ nwE a S S' 5 (0 + 96 + 96 + 96 + 24 + 256) ∧ seK S' a ∧ sK S' (a + 5) = .inl (.int, 256) ∧ seF S' a) := by
        intro u
        induction u with
        | zero =>
          intro x hx S1 hE1 hS1 hk5 hno
          have hx2 : x = 256 := by omega
          subst hx2
          have hI := ih (n + 1) (by omega) S1 (some (.int (nI 256))) hE1 hS1 hk5 (by rw [show 256 * (n + 1) = 256 * n + 256 by omega]; exact hno)
          rw [show 256 * (n + 1) = 256 * n + 256 by omega] at hI
          refine x_iload 56 4 (ab_dd tk_se_init 30 rfl) rfl rfl ?_
          refine x_sipush 59 256 (ab_dd tk_se_init 31 rfl) rfl (by decide) (x_topn 256 rfl ?_)
          refine x_icmp_ge_t 98 (ab_dd tk_se_init 32 rfl) (by decide) ((nI_leI (a := 256) (b := 256) (by omega) (by omega)).mpr (show 256 ≤ 256 by omega)) ?_
          refine xn_iinc 101 3 (fun y => [some (.ref a), some (.ref (a + 5)), some (.int (nI (cW (256 * n + 256)))), some (.int y), some (.int (nI 256))]) ((n + 1) + 1) (ab_dd tk_se_init 51 rfl) rfl (by decide) rfl (fun _ => rfl) (iinc_p 1) ?_
          refine x_goto 46 (ab_dd tk_se_init 52 rfl) (by decide) ?_
          exact hI
        | succ u ihu =>
          intro x hx S1 hE1 hS1 hk5 hno
          have hn5 : a + 5 < sn S1 := by have := hE1.2.1; omega
          obtain ⟨c1, c2⟩ := cW_ok (n := n) (o := x) (by omega) (by omega)
          have hI := ihu (x + 1) (by omega)
          by_cases hmv : mvJ x (n + 1) = true
          · obtain ⟨d1, d2, d3⟩ := c1 hmv
            rw [d3] at hI
            generalize hk : cW (256 * n + x) = k at *
            refine x_iload 56 4 (ab_dd tk_se_init 30 rfl) rfl rfl ?_
            refine x_sipush 59 256 (ab_dd tk_se_init 31 rfl) rfl (by decide) (x_topn 256 rfl ?_)
            refine x_icmp_ge_f 62 (ab_dd tk_se_init 32 rfl) rfl 98 (by decide) (fun z => absurd ((nI_leI (a := 256) (b := x) (by omega) (by omega)).mp z) (show ¬ (256 ≤ x) by omega)) ?_
            refine x_iload 64 4 (ab_dd tk_se_init 33 rfl) rfl rfl ?_
            refine x_iload_n 65 3 (ab_dd tk_se_init 34 rfl) rfl rfl rfl ?_
            refine x_callS 68 M_se_movesJust 1 2 [_, _] (ab_dd tk_se_init 35 rfl) rfl (by first | decide | omega) K_se_movesJust T_se_movesJust L_se_24 rfl (Nat.le_of_ble_eq_true rfl) (c_se_movesJust x (n + 1) (by omega) (by omega) (by omega)) (fun v1 w1 h1 => ?_)
            obtain ⟨rfl, rfl⟩ := h1
            refine x_if_eq_f 71 (ab_dd tk_se_init 36 rfl) rfl 92 (by decide) (fun z => by rw [if_pos hmv] at z; exact absurd z (by decide)) ?_
            refine x_iload_n 72 2 (ab_dd tk_se_init 37 rfl) rfl rfl rfl ?_
            refine x_bipush 74 24 (ab_dd tk_se_init 38 rfl) rfl (by decide) (x_topn 24 rfl ?_)
            refine x_icmp_ge_f 77 (ab_dd tk_se_init 39 rfl) rfl 92 (by decide) (fun z => absurd ((nI_leI (a := 24) (b := k) (by omega) (by omega)).mp z) (show ¬ (24 ≤ k) by omega)) ?_
            refine x_aload_n 78 1 (ab_dd tk_se_init 40 rfl) rfl rfl rfl ?_
            refine x_iload 80 4 (ab_dd tk_se_init 41 rfl) rfl rfl ?_
            refine x_iload_n 81 2 (ab_dd tk_se_init 42 rfl) rfl rfl rfl ?_
            refine t_iast 82 x (ab_dd tk_se_init 43 rfl) rfl (by omega) hn5 hk5 rfl (by omega) (by decide) ?_
            refine x_aload_n 83 0 (ab_dd tk_se_init 44 rfl) rfl rfl rfl ?_
            refine x_iload_n 84 2 (ab_dd tk_se_init 45 rfl) rfl rfl rfl ?_
            refine x_iload 86 4 (ab_dd tk_se_init 46 rfl) rfl rfl ?_
            have hE2 : sEq [a + 1, a + 2, a + 4, a + 5] S1 (pI S1 (a + 5) x (nI k)) := sEq.rf.pI (by simp)
            have hS2 : seK (pI S1 (a + 5) x (nI k)) a := hS1.eq hE2
            refine t_callV 89 M_se_note 1 2 [_, _] (ab_dd tk_se_init 47 rfl) rfl (by first | decide | omega) K_se_note V_se_note.1 V_se_note.2 L_se_28 rfl (Nat.le_of_ble_eq_true rfl) hS1.1 (Nat.lt_of_le_of_lt (Nat.le_add_right a 4) hS1.2.1) hS1.2.2.1 rfl ((by have z := c_se_note (G := G) hS2 k d1; rw [d2] at z; exact z)) (fun v1 w1 h1 => ?_)
            obtain ⟨rfl, S3, rfl, hE3, g1, g2, g3, g4⟩ := h1
            refine xn_iinc 92 2 (fun y => [some (.ref a), some (.ref (a + 5)), some (.int y), some (.int (nI (n + 1))), some (.int (nI x))]) (k + 1) (ab_dd tk_se_init 48 rfl) rfl (by decide) rfl (fun _ => rfl) (iinc_p 1) ?_
            refine xn_iinc 95 4 (fun y => [some (.ref a), some (.ref (a + 5)), some (.int (nI (k + 1))), some (.int (nI (n + 1))), some (.int y)]) (x + 1) (ab_dd tk_se_init 49 rfl) rfl (by decide) rfl (fun _ => rfl) (iinc_p 1) ?_
            refine x_goto 54 (ab_dd tk_se_init 50 rfl) (by decide) ?_
            have hE4 : sEq [a + 1, a + 2, a + 4, a + 5] S1 S3 := hE2.tr (hE3.mono (by simp))
            refine hI S3 (hE1.sE hE4 (fun y hy => by simp only [List.mem_cons, List.not_mem_nil, or_false] at hy; omega)) (hS1.eq hE4) (by rw [hE4.2.1]; exact hk5) ⟨fun q r h1 h2 => ?_, fun q h1 => ?_, fun q h1 => ?_⟩
            · by_cases e : q = k
              · rw [e]; exact g1 r h2
              · rw [(g3 (q * 4 + r) (by omega)).1, (g3 (q * 4 + r) (by omega)).2, gI_o (by omega), gI_o (by omega)]
                exact hno.1 q r (by omega) h2
            · by_cases e : q = k
              · rw [e, d2]; exact g2
              · rw [g4 q (by omega), gI_o (by omega)]; exact hno.2.1 q (by omega)
            · rw [hE3.2.2.1 (a + 5) (by simp)]
              by_cases e : q = k
              · rw [e, d2, gI_s]
              · rw [gI_k (fun z => e (qO_inj (by omega) d1 (by rw [z, d2]))), ]
                exact hno.2.2 q (by omega)
          · have d3 := c2 hmv
            rw [d3] at hI
            have hcl := cW_le (256 * n + x)
            refine x_iload 56 4 (ab_dd tk_se_init 30 rfl) rfl rfl ?_
            refine x_sipush 59 256 (ab_dd tk_se_init 31 rfl) rfl (by decide) (x_topn 256 rfl ?_)
            refine x_icmp_ge_f 62 (ab_dd tk_se_init 32 rfl) rfl 98 (by decide) (fun z => absurd ((nI_leI (a := 256) (b := x) (by omega) (by omega)).mp z) (show ¬ (256 ≤ x) by omega)) ?_
            refine x_iload 64 4 (ab_dd tk_se_init 33 rfl) rfl rfl ?_
            refine x_iload_n 65 3 (ab_dd tk_se_init 34 rfl) rfl rfl rfl ?_
            refine x_callS 68 M_se_movesJust 1 2 [_, _] (ab_dd tk_se_init 35 rfl) rfl (by first | decide | omega) K_se_movesJust T_se_movesJust L_se_24 rfl (Nat.le_of_ble_eq_true rfl) (c_se_movesJust x (n + 1) (by omega) (by omega) (by omega)) (fun v1 w1 h1 => ?_)
            obtain ⟨rfl, rfl⟩ := h1
            refine x_if_eq_t 92 (ab_dd tk_se_init 36 rfl) (by decide) (if_neg hmv) ?_
            refine xn_iinc 95 4 (fun y => [some (.ref a), some (.ref (a + 5)), some (.int (nI (cW (256 * n + x)))), some (.int (nI (n + 1))), some (.int y)]) (x + 1) (ab_dd tk_se_init 49 rfl) rfl (by decide) rfl (fun _ => rfl) (iinc_p 1) ?_
            refine x_goto 54 (ab_dd tk_se_init 50 rfl) (by decide) ?_
            exact hI S1 hE1 hS1 hk5 hno
      refine x_iload_n 47 3 (ab_dd tk_se_init 25 rfl) rfl rfl rfl ?_
      refine x_iconst 48 4 (ab_dd tk_se_init 26 rfl) rfl (by decide) (x_topn 4 rfl ?_)
      refine x_icmp_gt_f 51 (ab_dd tk_se_init 27 rfl) rfl 104 (by decide) (fun z => absurd ((nI_ltI (a := 4) (b := (n + 1)) (by omega) (by omega)).mp z) (show ¬ (4 < (n + 1)) by omega)) ?_
      refine x_iconst 52 0 (ab_dd tk_se_init 28 rfl) rfl (by decide) (x_topn 0 rfl ?_)
      refine x_istore 54 [some (.ref a), some (.ref (a + 5)), some (.int (nI (cW (256 * n)))), some (.int (nI (n + 1))), some (.int (nI 0))] 4 (ab_dd tk_se_init 29 rfl) rfl (by decide) rfl ?_
      exact inner 256 0 (by omega) S1 hE1 hS1 hk5 hno
  refine x_aload_n 1 0 (ab_dd tk_se_init 0 rfl) rfl rfl rfl ?_
  refine x_objInit 4 (ab_dd tk_se_init 1 rfl) rfl (by omega) L_se_3 O_inst O_code (Nat.le_of_ble_eq_true rfl) ?_
  refine x_aload_n 5 0 (ab_dd tk_se_init 2 rfl) rfl rfl rfl ?_
  refine x_bipush 7 96 (ab_dd tk_se_init 3 rfl) rfl (by decide) (x_topn 96 rfl ?_)
  refine t_newI 9 96 (ab_dd tk_se_init 4 rfl) rfl (show 50 ≤ sn S + 0 by omega) A_int rfl (by decide) ?_
  refine t_putPF 12 (ab_dd tk_se_init 5 rfl) rfl F_se_9 rfl (no_nest (by decide +kernel)) ha (Nat.lt_succ_of_lt hn0) ((up1_o (Nat.ne_of_lt hn0)).trans hK) rfl ?_
  refine x_aload_n 13 0 (ab_dd tk_se_init 6 rfl) rfl rfl rfl ?_
  refine x_bipush 15 96 (ab_dd tk_se_init 7 rfl) rfl (by decide) (x_topn 96 rfl ?_)
  refine t_newI 17 96 (ab_dd tk_se_init 8 rfl) rfl (show 50 ≤ sn S + 1 by omega) A_int rfl (by decide) ?_
  refine t_putPF 20 (ab_dd tk_se_init 9 rfl) rfl F_se_15 rfl (no_nest (by decide +kernel)) ha (Nat.lt_succ_of_lt (Nat.lt_succ_of_lt hn0)) ((up1_o (Nat.ne_of_lt (Nat.lt_succ_of_lt hn0))).trans ((up1_o (Nat.ne_of_lt hn0)).trans hK)) rfl ?_
  refine x_aload_n 21 0 (ab_dd tk_se_init 10 rfl) rfl rfl rfl ?_
  refine x_bipush 23 96 (ab_dd tk_se_init 11 rfl) rfl (by decide) (x_topn 96 rfl ?_)
  refine t_newI 25 96 (ab_dd tk_se_init 12 rfl) rfl (show 50 ≤ sn S + 2 by omega) A_int rfl (by decide) ?_
  refine t_putPF 28 (ab_dd tk_se_init 13 rfl) rfl F_se_18 rfl (no_nest (by decide +kernel)) ha (Nat.lt_succ_of_lt (Nat.lt_succ_of_lt (Nat.lt_succ_of_lt hn0))) ((up1_o (Nat.ne_of_lt (Nat.lt_succ_of_lt (Nat.lt_succ_of_lt hn0)))).trans ((up1_o (Nat.ne_of_lt (Nat.lt_succ_of_lt hn0))).trans ((up1_o (Nat.ne_of_lt hn0)).trans hK))) rfl ?_
  refine x_aload_n 29 0 (ab_dd tk_se_init 14 rfl) rfl rfl rfl ?_
  refine x_bipush 31 24 (ab_dd tk_se_init 15 rfl) rfl (by decide) (x_topn 24 rfl ?_)
  refine t_newI 33 24 (ab_dd tk_se_init 16 rfl) rfl (show 50 ≤ sn S + 3 by omega) A_int rfl (by decide) ?_
  refine t_putPF 36 (ab_dd tk_se_init 17 rfl) rfl F_se_21 rfl (no_nest (by decide +kernel)) ha (Nat.lt_succ_of_lt (Nat.lt_succ_of_lt (Nat.lt_succ_of_lt (Nat.lt_succ_of_lt hn0)))) ((up1_o (Nat.ne_of_lt (Nat.lt_succ_of_lt (Nat.lt_succ_of_lt (Nat.lt_succ_of_lt hn0))))).trans ((up1_o (Nat.ne_of_lt (Nat.lt_succ_of_lt (Nat.lt_succ_of_lt hn0)))).trans ((up1_o (Nat.ne_of_lt (Nat.lt_succ_of_lt hn0))).trans ((up1_o (Nat.ne_of_lt hn0)).trans hK)))) rfl ?_
  refine x_sipush 39 256 (ab_dd tk_se_init 18 rfl) rfl (by decide) (x_topn 256 rfl ?_)
  refine t_newI 41 256 (ab_dd tk_se_init 19 rfl) rfl (show 50 ≤ sn S + 4 by omega) A_int rfl (by decide) ?_
  refine x_astore_n 42 [some (.ref a), some (.ref (sn S + 4)), none, none, none] 1 (ab_dd tk_se_init 20 rfl) rfl rfl (by decide) rfl ?_
  refine x_iconst 43 0 (ab_dd tk_se_init 21 rfl) rfl (by decide) (x_topn 0 rfl ?_)
  refine x_istore_n 44 [some (.ref a), some (.ref (sn S + 4)), some (.int (nI 0)), none, none] 2 (ab_dd tk_se_init 22 rfl) rfl rfl (by decide) rfl ?_
  refine x_iconst 45 1 (ab_dd tk_se_init 23 rfl) rfl (by decide) (x_topn 1 rfl ?_)
  refine x_istore_n 46 [some (.ref a), some (.ref (sn S + 4)), some (.int (nI 0)), some (.int (nI 1)), none] 3 (ab_dd tk_se_init 24 rfl) rfl rfl (by decide) rfl ?_
  show ab_Ex _ _ _ _ [some (.ref a), some (.ref (sn S + 4)), some (.int (nI 0)), some (.int (nI 1)), none] _ _ _
  have key : ∀ S1 : ab_S, nwE a S S1 5 (0 + 96 + 96 + 96 + 24 + 256) → seK S1 a → sK S1 (a + 5) = .inl (.int, 256) → ab_Ex G 2 M_se_init 46 [some (.ref a), some (.ref (a + 5)), some (.int (nI 0)), some (.int (nI 1)), none] [] (sw S1) (fun v w' => v = none ∧ ∃ S', w' = sw S' ∧ nwE a S S' 5 (0 + 96 + 96 + 96 + 24 + 256) ∧ seK S' a ∧ sK S' (a + 5) = .inl (.int, 256) ∧ seF S' a) := fun S1 x1 x2 x3 => by
    have hz := ways 4 0 (by omega) S1 none x1 x2 x3 (by rw [show 256 * 0 = 0 from rfl, cW_0]; exact ⟨fun q r h => absurd h (Nat.not_lt_zero q), fun q h => absurd h (Nat.not_lt_zero q), fun q h => absurd h (Nat.not_lt_zero q)⟩)
    rw [show 256 * 0 = 0 from rfl, cW_0] at hz
    exact hz
  rw [show (Value.ref (sn S + 4)) = Value.ref (a + 5) by rw [show a + 5 = sn S + 4 by omega]]
  refine key _ (((((((((nwE.rf.pN).pP (by first | exact Or.inl rfl | exact Or.inr (Nat.le_add_right _ _))).pN).pP (by first | exact Or.inl rfl | exact Or.inr (Nat.le_add_right _ _))).pN).pP (by first | exact Or.inl rfl | exact Or.inr (Nat.le_add_right _ _))).pN).pP (by first | exact Or.inl rfl | exact Or.inr (Nat.le_add_right _ _))).pN) ?_ ?_
  · refine ⟨ha, (show a + 4 < sn S + 5 by omega), ((up1_o (Nat.ne_of_lt (Nat.lt_succ_of_lt (Nat.lt_succ_of_lt (Nat.lt_succ_of_lt (Nat.lt_succ_of_lt hn0)))))).trans ((up1_o (Nat.ne_of_lt (Nat.lt_succ_of_lt (Nat.lt_succ_of_lt (Nat.lt_succ_of_lt hn0))))).trans ((up1_o (Nat.ne_of_lt (Nat.lt_succ_of_lt (Nat.lt_succ_of_lt hn0)))).trans ((up1_o (Nat.ne_of_lt (Nat.lt_succ_of_lt hn0))).trans ((up1_o (Nat.ne_of_lt hn0)).trans hK))))), ?_, ?_, ?_, ?_, ?_, ?_, ?_, ?_⟩
    · rw [show a + 1 = sn S + 0 by omega]; exact ((up1_o (Nat.ne_of_lt (Nat.lt_succ_of_lt (Nat.lt_succ_of_lt (Nat.lt_succ_of_lt (Nat.lt_succ_self _)))))).trans ((up1_o (Nat.ne_of_lt (Nat.lt_succ_of_lt (Nat.lt_succ_of_lt (Nat.lt_succ_self _))))).trans ((up1_o (Nat.ne_of_lt (Nat.lt_succ_of_lt (Nat.lt_succ_self _)))).trans ((up1_o (Nat.ne_of_lt (Nat.lt_succ_self _))).trans up1_s))))
    · rw [show a + 2 = sn S + 1 by omega]; exact ((up1_o (Nat.ne_of_lt (Nat.lt_succ_of_lt (Nat.lt_succ_of_lt (Nat.lt_succ_self _))))).trans ((up1_o (Nat.ne_of_lt (Nat.lt_succ_of_lt (Nat.lt_succ_self _)))).trans ((up1_o (Nat.ne_of_lt (Nat.lt_succ_self _))).trans up1_s)))
    · rw [show a + 3 = sn S + 2 by omega]; exact ((up1_o (Nat.ne_of_lt (Nat.lt_succ_of_lt (Nat.lt_succ_self _)))).trans ((up1_o (Nat.ne_of_lt (Nat.lt_succ_self _))).trans up1_s))
    · rw [show a + 4 = sn S + 3 by omega]; exact ((up1_o (Nat.ne_of_lt (Nat.lt_succ_self _))).trans up1_s)
    · rw [show a + 1 = sn S + 0 by omega]; exact ((congrFun (up1_o (Nat.ne_of_lt (Nat.lt_succ_of_lt (Nat.lt_succ_of_lt (Nat.lt_succ_of_lt (Nat.lt_succ_of_lt hn0)))))) _).trans ((gP_k (by decide)).trans ((congrFun (up1_o (Nat.ne_of_lt (Nat.lt_succ_of_lt (Nat.lt_succ_of_lt (Nat.lt_succ_of_lt hn0))))) _).trans ((gP_k (by decide)).trans ((congrFun (up1_o (Nat.ne_of_lt (Nat.lt_succ_of_lt (Nat.lt_succ_of_lt hn0)))) _).trans ((gP_k (by decide)).trans ((congrFun (up1_o (Nat.ne_of_lt (Nat.lt_succ_of_lt hn0))) _).trans gP_s)))))))
    · rw [show a + 2 = sn S + 1 by omega]; exact ((congrFun (up1_o (Nat.ne_of_lt (Nat.lt_succ_of_lt (Nat.lt_succ_of_lt (Nat.lt_succ_of_lt (Nat.lt_succ_of_lt hn0)))))) _).trans ((gP_k (by decide)).trans ((congrFun (up1_o (Nat.ne_of_lt (Nat.lt_succ_of_lt (Nat.lt_succ_of_lt (Nat.lt_succ_of_lt hn0))))) _).trans ((gP_k (by decide)).trans ((congrFun (up1_o (Nat.ne_of_lt (Nat.lt_succ_of_lt (Nat.lt_succ_of_lt hn0)))) _).trans gP_s)))))
    · rw [show a + 3 = sn S + 2 by omega]; exact ((congrFun (up1_o (Nat.ne_of_lt (Nat.lt_succ_of_lt (Nat.lt_succ_of_lt (Nat.lt_succ_of_lt (Nat.lt_succ_of_lt hn0)))))) _).trans ((gP_k (by decide)).trans ((congrFun (up1_o (Nat.ne_of_lt (Nat.lt_succ_of_lt (Nat.lt_succ_of_lt (Nat.lt_succ_of_lt hn0))))) _).trans gP_s)))
    · rw [show a + 4 = sn S + 3 by omega]; exact ((congrFun (up1_o (Nat.ne_of_lt (Nat.lt_succ_of_lt (Nat.lt_succ_of_lt (Nat.lt_succ_of_lt (Nat.lt_succ_of_lt hn0)))))) _).trans gP_s)
  · rw [show a + 5 = sn S + 4 by omega]; exact up1_s
