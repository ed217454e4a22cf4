/-- what placing tells -/
def plV (x : Int32) (b : plB) : Int32 := if x = 0 then b.1 else if x = 1 then b.2.1 else b.2.2 (cN (x - 10))
def plO (x : Int32) (R : Nat) : Prop := (0 ≤ x ∧ x ≤ 1) ∨ (10 ≤ x ∧ (0 ≤ x - 10 ∧ cN (x - 10) < R))
theorem plI_0 {R : Nat} {p : Nat → Nat} : plI R 0 0 p := ⟨by decide, rfl, fun k hk => absurd hk (by omega), fun u hu => ⟨fun h => by (rw [Nat.zero_div] at h; cases h), fun ⟨k, hk, _⟩ => absurd hk (by omega)⟩⟩
def tb_m_placing : List (Nat × Instr × Nat) := [(0, .aload_n 0, 1), (1, .iconst 0, 1), (2, .putfield 1, 3), (5, .iload_n 2, 1), (6, .i2l, 1), (7, .lconst 0, 1), (8, .lconst 1, 1), (9, .invokestatic 159, 3), (12, .ifCond .ne 24, 3), (15, .iload_n 2, 1), (16, .bipush 10, 2), (18, .if_icmp .lt 15, 3), (21, .aload_n 0, 1), (22, .iload_n 2, 1), (23, .bipush 10, 2), (25, .isub, 1), (26, .i2l, 1), (27, .invokevirtual 258, 3), (30, .ifCond .ne 6, 3), (33, .bipush (-2), 2), (35, .ireturn, 1), (36, .iload_n 1, 1), (37, .i2l, 1), (38, .lconst 0, 1), (39, .ldc2_w 307, 3), (42, .invokestatic 159, 3), (45, .ifCond .ne 6, 3), (48, .bipush (-3), 2), (50, .ireturn, 1), (51, .aload_n 0, 1), (52, .getfield 13, 3), (55, .iconst 1, 1), (56, .iaload, 1), (57, .ifCond .ne 5, 3), (60, .iconst (-1), 1), (61, .ireturn, 1), (62, .aload_n 0, 1), (63, .iconst (-1), 1), (64, .putfield 394, 3), (67, .aload_n 0, 1), (68, .iconst (-1), 1), (69, .putfield 397, 3), (72, .aload_n 0, 1), (73, .iconst 0, 1), (74, .iconst 0, 1), (75, .iload_n 1, 1), (76, .invokevirtual 404, 3), (79, .iload_n 2, 1), (80, .ifCond .ne 10, 3), (83, .aload_n 0, 1), (84, .getfield 394, 3), (87, .goto 24, 3), (90, .iload_n 2, 1), (91, .iconst 1, 1), (92, .if_icmp .ne 10, 3), (95, .aload_n 0, 1), (96, .getfield 397, 3), (99, .goto 12, 3), (102, .aload_n 0, 1), (103, .getfield 69, 3), (106, .iload_n 2, 1), (107, .bipush 10, 2), (109, .isub, 1), (110, .iaload, 1), (111, .ireturn, 1)]
theorem tk_m_placing : ∀ q ∈ tb_m_placing, decode M_m_placing.2.1 q.1 = .ok q.2 := by decide +kernel
theorem c_m_placing {G : ab_G} {S : ab_S} {a : Nat → Int32} (hm : mSh S) (hA : mA S = a) (ha : aOk a) (n x : Int32) : ab_C G 10 M_m_placing [.ref 120, .int n, .int x] (sw S) (fun v w' => ∃ v0, pQ S (some (.int v0)) v w' ∧ ((¬ plO x (aR a) ∧ v0 = -2) ∨ (plO x (aR a) ∧ ¬ (0 ≤ n ∧ n ≤ 20) ∧ v0 = -3) ∨ (plO x (aR a) ∧ (0 ≤ n ∧ n ≤ 20) ∧ aR a = 0 ∧ v0 = -1) ∨ (plO x (aR a) ∧ (0 ≤ n ∧ n ≤ 20) ∧ 0 < aR a ∧ ∃ q0, v0 = plV x ((plX (aR a) (aR a) 0 0 (fun _ => 0)).foldl (plU a (cN n)) (-1, -1, q0))))) := by
  refine x_enter [some (.ref 120), some (.int n), some (.int x)] (by decide) (Nat.le_of_ble_eq_true rfl) rfl (fun v w' h => by obtain ⟨v0, ⟨rfl, -⟩, -⟩ := h; rfl) ?_
  have hR4 := ha.R.2
  refine x_aload_n 1 0 (ab_dd tk_m_placing 0 rfl) rfl rfl rfl ?_
  refine x_iconst 2 0 (ab_dd tk_m_placing 1 rfl) rfl (by decide) (x_topn 0 rfl ?_)
  refine t_putI 5 (ab_dd tk_m_placing 2 rfl) rfl F_m_1 (by decide) (Nat.lt_of_lt_of_le (by decide) hm.1) (hm.2.1 0 (by decide)) rfl rfl rfl ?_
  refine x_iload_n 6 2 (ab_dd tk_m_placing 3 rfl) rfl rfl rfl ?_
  refine x_i2l 7 (ab_dd tk_m_placing 4 rfl) rfl ?_
  refine x_lconst 8 0 (ab_dd tk_m_placing 5 rfl) rfl (by decide) ?_
  refine x_lconst 9 1 (ab_dd tk_m_placing 6 rfl) rfl (by decide) ?_
  refine x_callS 12 M_m_within 0 3 [_, _, _] (ab_dd tk_m_placing 7 rfl) rfl (by decide) K_m_within T_m_within L_m_159 rfl (Nat.le_of_ble_eq_true rfl) (w_inI 0 1 rfl rfl _) (fun v1 w1 h1 => ?_)
  obtain ⟨rfl, rfl⟩ := h1
  refine xb_if_ne 15 36 (ab_dd tk_m_placing 8 rfl) rfl (by decide) (fun h12 => ?_) (fun h12 => ?_)
  · refine x_iload_n 37 1 (ab_dd tk_m_placing 21 rfl) rfl rfl rfl ?_
    refine x_i2l 38 (ab_dd tk_m_placing 22 rfl) rfl ?_
    refine x_lconst 39 0 (ab_dd tk_m_placing 23 rfl) rfl (by decide) ?_
    refine x_ldc2 42 (ab_dd tk_m_placing 24 rfl) rfl C_m_307 ?_
    refine x_callS 45 M_m_within 0 3 [_, _, _] (ab_dd tk_m_placing 25 rfl) rfl (by decide) K_m_within T_m_within L_m_159 rfl (Nat.le_of_ble_eq_true rfl) (w_inI 0 20 rfl rfl _) (fun v1 w1 h1 => ?_)
    obtain ⟨rfl, rfl⟩ := h1
    refine xb_if_ne 48 51 (ab_dd tk_m_placing 26 rfl) rfl (by decide) (fun h45 => ?_) (fun h45 => ?_)
    · obtain ⟨nn, hnn, enn, en⟩ := in_get (n := 20) (by decide) h45
      rw [show some (Value.int n) = some (Value.int (nI nn)) by rw [enn]]
      refine x_aload_n 52 0 (ab_dd tk_m_placing 29 rfl) rfl rfl rfl ?_
      refine t_getP 55 121 (ab_dd tk_m_placing 30 rfl) rfl F_m_13 (by decide) (Nat.lt_of_lt_of_le (by decide) hm.1) (hm.2.1 0 (by decide)) rfl (hm.2.2 1 (by decide)) ?_
      refine x_iconst 56 1 (ab_dd tk_m_placing 31 rfl) rfl (by decide) (x_topn 1 rfl ?_)
      refine t_iald 57 1 (ab_dd tk_m_placing 32 rfl) rfl (by decide) (Nat.lt_of_lt_of_le (by decide) hm.1) (hm.2.1 1 (by decide)) rfl (by decide) (by decide) (x_topn (aR a) ((congrFun hA 1).trans ha.R.1) ?_)
      refine xn_if_ne 60 62 (ab_dd tk_m_placing 33 rfl) rfl (by decide) (by omega) (fun h57 => ?_) (fun h57 => ?_)
      · refine x_aload_n 63 0 (ab_dd tk_m_placing 36 rfl) rfl rfl rfl ?_
        refine x_iconst 64 (-1) (ab_dd tk_m_placing 37 rfl) rfl (by decide) ?_
        refine t_putI 67 (ab_dd tk_m_placing 38 rfl) rfl F_m_394 (by decide) (Nat.lt_of_lt_of_le (by decide) hm.1) (hm.2.1 0 (by decide)) rfl rfl rfl ?_
        refine x_aload_n 68 0 (ab_dd tk_m_placing 39 rfl) rfl rfl rfl ?_
        refine x_iconst 69 (-1) (ab_dd tk_m_placing 40 rfl) rfl (by decide) ?_
        refine t_putI 72 (ab_dd tk_m_placing 41 rfl) rfl F_m_397 (by decide) (Nat.lt_of_lt_of_le (by decide) hm.1) (hm.2.1 0 (by decide)) rfl rfl rfl ?_
        refine x_aload_n 73 0 (ab_dd tk_m_placing 42 rfl) rfl rfl rfl ?_
        refine x_iconst 74 0 (ab_dd tk_m_placing 43 rfl) rfl (by decide) (x_topn 0 rfl ?_)
        refine x_iconst 75 0 (ab_dd tk_m_placing 44 rfl) rfl (by decide) (x_topn 0 rfl ?_)
        refine x_iload_n 76 1 (ab_dd tk_m_placing 45 rfl) rfl rfl rfl ?_
        refine t_callV 79 M_m_goesPlace (5 + aR a) 3 [_, _, _] (ab_dd tk_m_placing 46 rfl) rfl (by omega) K_m_goesPlace V_m_goesPlace.1 V_m_goesPlace.2 L_m_404 rfl (Nat.le_of_ble_eq_true rfl) (by decide) (Nat.lt_of_lt_of_le (by decide) hm.1) (hm.2.1 0 (by decide)) rfl (c_m_goesPlace ha nn hnn (aR a) 0 0 (fun _ => 0) (-1, -1, sI S 137) _ (by omega) (by exact hm) (by exact hA) plI_0 (fun k hk => absurd hk (by omega)) ⟨rfl, rfl, fun k hk => rfl⟩) (fun v1 w1 h1 => ?_)
        obtain ⟨rfl, U1, rfl, um1, uA1, uE1, uF1, uP, uB⟩ := h1
        refine x_iload_n 80 2 (ab_dd tk_m_placing 47 rfl) rfl rfl rfl ?_
        refine x_if_ne 83 90 (ab_dd tk_m_placing 48 rfl) rfl (by decide) (fun h80 => ?_) (fun h80 => ?_)
        · refine x_iload_n 91 2 (ab_dd tk_m_placing 52 rfl) rfl rfl rfl ?_
          refine x_iconst 92 1 (ab_dd tk_m_placing 53 rfl) rfl (by decide) (x_topn 1 rfl ?_)
          refine x_icmp_ne 95 102 (ab_dd tk_m_placing 54 rfl) rfl (by decide) (fun h92 => ?_) (fun h92 => ?_)
          · obtain ⟨q, hq, e, -⟩ := in_get (n := 1) (by decide) h12
            rcases (show q = 0 ∨ q = 1 by omega) with z | z
            · rw [z] at e; exact absurd e h80
            · rw [z] at e; exact absurd e h92
          · refine x_aload_n 96 0 (ab_dd tk_m_placing 55 rfl) rfl rfl rfl ?_
            refine t_getI 99 (ab_dd tk_m_placing 56 rfl) rfl F_m_397 (by decide) (Nat.lt_of_lt_of_le (by decide) um1.1) (um1.2.1 0 (by decide)) rfl (x_topx _ uB.2.1 ?_)
            refine x_goto 111 (ab_dd tk_m_placing 57 rfl) (by decide) ?_
            exact x_iret (ab_dd tk_m_placing 64 rfl) ⟨_, ⟨rfl, _, rfl, um1, uA1.trans hA.symm, (((((sEq.rf (l := qL)).pI (by decide)).pI (by decide)).pI (by decide)).tr (uE1.mono (by decide))), (fEq.t2 uF1 (by exact (fEq.pI (fEq.pI (fEq.pI (fEq.rf (S := S)) (Or.inr (by decide))) (Or.inr (by decide))) (Or.inr (by decide)))))⟩, Or.inr (Or.inr (Or.inr ⟨Or.inl h12, h45, h57, sI S 137, by rw [en]; exact ((if_neg h80).trans (if_pos h92)).symm⟩))⟩
        · refine x_aload_n 84 0 (ab_dd tk_m_placing 49 rfl) rfl rfl rfl ?_
          refine t_getI 87 (ab_dd tk_m_placing 50 rfl) rfl F_m_394 (by decide) (Nat.lt_of_lt_of_le (by decide) um1.1) (um1.2.1 0 (by decide)) rfl (x_topx _ uB.1 ?_)
          refine x_goto 111 (ab_dd tk_m_placing 51 rfl) (by decide) ?_
          exact x_iret (ab_dd tk_m_placing 64 rfl) ⟨_, ⟨rfl, _, rfl, um1, uA1.trans hA.symm, (((((sEq.rf (l := qL)).pI (by decide)).pI (by decide)).pI (by decide)).tr (uE1.mono (by decide))), (fEq.t2 uF1 (by exact (fEq.pI (fEq.pI (fEq.pI (fEq.rf (S := S)) (Or.inr (by decide))) (Or.inr (by decide))) (Or.inr (by decide)))))⟩, Or.inr (Or.inr (Or.inr ⟨Or.inl h12, h45, h57, sI S 137, by rw [en]; exact (if_pos h80).symm⟩))⟩
      · refine x_iconst 61 (-1) (ab_dd tk_m_placing 34 rfl) rfl (by decide) ?_
        exact x_iret (ab_dd tk_m_placing 35 rfl) ⟨-1, ⟨rfl, _, rfl, hm, hA.trans hA.symm, ((sEq.rf (l := qL)).pI (by decide)), (fEq.pI (fEq.rf (S := S)) (Or.inr (by decide)))⟩, Or.inr (Or.inr (Or.inl ⟨Or.inl h12, h45, h57, rfl⟩))⟩
    · refine x_bipush 50 (-3) (ab_dd tk_m_placing 27 rfl) rfl (by decide) ?_
      exact x_iret (ab_dd tk_m_placing 28 rfl) ⟨-3, ⟨rfl, _, rfl, hm, hA.trans hA.symm, ((sEq.rf (l := qL)).pI (by decide)), (fEq.pI (fEq.rf (S := S)) (Or.inr (by decide)))⟩, Or.inr (Or.inl ⟨Or.inl h12, h45, rfl⟩)⟩
  · refine x_iload_n 16 2 (ab_dd tk_m_placing 9 rfl) rfl rfl rfl ?_
    refine x_bipush 18 10 (ab_dd tk_m_placing 10 rfl) rfl (by decide) (x_topn 10 rfl ?_)
    refine x_icmp_lt 21 33 (ab_dd tk_m_placing 11 rfl) rfl (by decide) (fun h18 => ?_) (fun h18 => ?_)
    · refine x_bipush 35 (-2) (ab_dd tk_m_placing 19 rfl) rfl (by decide) ?_
      exact x_iret (ab_dd tk_m_placing 20 rfl) ⟨-2, ⟨rfl, _, rfl, hm, hA.trans hA.symm, ((sEq.rf (l := qL)).pI (by decide)), (fEq.pI (fEq.rf (S := S)) (Or.inr (by decide)))⟩, Or.inl ⟨fun z => z.elim h12 (fun y => absurd y.1 (Int32.not_le.mpr h18)), rfl⟩⟩
    · refine x_aload_n 22 0 (ab_dd tk_m_placing 12 rfl) rfl rfl rfl ?_
      refine x_iload_n 23 2 (ab_dd tk_m_placing 13 rfl) rfl rfl rfl ?_
      refine x_bipush 25 10 (ab_dd tk_m_placing 14 rfl) rfl (by decide) (x_topn 10 rfl ?_)
      refine x_isub 26 (ab_dd tk_m_placing 15 rfl) rfl ?_
      refine x_i2l 27 (ab_dd tk_m_placing 16 rfl) rfl ?_
      refine t_callV 30 M_m_isRider 1 1 [_] (ab_dd tk_m_placing 17 rfl) rfl (by decide) K_m_isRider V_m_isRider.1 V_m_isRider.2 L_m_258 rfl (Nat.le_of_ble_eq_true rfl) (by decide) (Nat.lt_of_lt_of_le (by decide) hm.1) (hm.2.1 0 (by decide)) rfl (w_isRider (by exact hm) (by exact hA) ha _) (fun v1 w1 h1 => ?_)
      obtain ⟨rfl, rfl⟩ := h1
      refine xb_if_ne 33 36 (ab_dd tk_m_placing 18 rfl) rfl (by decide) (fun h30 => ?_) (fun h30 => ?_)
      · refine x_iload_n 37 1 (ab_dd tk_m_placing 21 rfl) rfl rfl rfl ?_
        refine x_i2l 38 (ab_dd tk_m_placing 22 rfl) rfl ?_
        refine x_lconst 39 0 (ab_dd tk_m_placing 23 rfl) rfl (by decide) ?_
        refine x_ldc2 42 (ab_dd tk_m_placing 24 rfl) rfl C_m_307 ?_
        refine x_callS 45 M_m_within 0 3 [_, _, _] (ab_dd tk_m_placing 25 rfl) rfl (by decide) K_m_within T_m_within L_m_159 rfl (Nat.le_of_ble_eq_true rfl) (w_inI 0 20 rfl rfl _) (fun v1 w1 h1 => ?_)
        obtain ⟨rfl, rfl⟩ := h1
        refine xb_if_ne 48 51 (ab_dd tk_m_placing 26 rfl) rfl (by decide) (fun h45 => ?_) (fun h45 => ?_)
        · obtain ⟨nn, hnn, enn, en⟩ := in_get (n := 20) (by decide) h45
          rw [show some (Value.int n) = some (Value.int (nI nn)) by rw [enn]]
          refine x_aload_n 52 0 (ab_dd tk_m_placing 29 rfl) rfl rfl rfl ?_
          refine t_getP 55 121 (ab_dd tk_m_placing 30 rfl) rfl F_m_13 (by decide) (Nat.lt_of_lt_of_le (by decide) hm.1) (hm.2.1 0 (by decide)) rfl (hm.2.2 1 (by decide)) ?_
          refine x_iconst 56 1 (ab_dd tk_m_placing 31 rfl) rfl (by decide) (x_topn 1 rfl ?_)
          refine t_iald 57 1 (ab_dd tk_m_placing 32 rfl) rfl (by decide) (Nat.lt_of_lt_of_le (by decide) hm.1) (hm.2.1 1 (by decide)) rfl (by decide) (by decide) (x_topn (aR a) ((congrFun hA 1).trans ha.R.1) ?_)
          refine xn_if_ne 60 62 (ab_dd tk_m_placing 33 rfl) rfl (by decide) (by omega) (fun h57 => ?_) (fun h57 => ?_)
          · refine x_aload_n 63 0 (ab_dd tk_m_placing 36 rfl) rfl rfl rfl ?_
            refine x_iconst 64 (-1) (ab_dd tk_m_placing 37 rfl) rfl (by decide) ?_
            refine t_putI 67 (ab_dd tk_m_placing 38 rfl) rfl F_m_394 (by decide) (Nat.lt_of_lt_of_le (by decide) hm.1) (hm.2.1 0 (by decide)) rfl rfl rfl ?_
            refine x_aload_n 68 0 (ab_dd tk_m_placing 39 rfl) rfl rfl rfl ?_
            refine x_iconst 69 (-1) (ab_dd tk_m_placing 40 rfl) rfl (by decide) ?_
            refine t_putI 72 (ab_dd tk_m_placing 41 rfl) rfl F_m_397 (by decide) (Nat.lt_of_lt_of_le (by decide) hm.1) (hm.2.1 0 (by decide)) rfl rfl rfl ?_
            refine x_aload_n 73 0 (ab_dd tk_m_placing 42 rfl) rfl rfl rfl ?_
            refine x_iconst 74 0 (ab_dd tk_m_placing 43 rfl) rfl (by decide) (x_topn 0 rfl ?_)
            refine x_iconst 75 0 (ab_dd tk_m_placing 44 rfl) rfl (by decide) (x_topn 0 rfl ?_)
            refine x_iload_n 76 1 (ab_dd tk_m_placing 45 rfl) rfl rfl rfl ?_
            refine t_callV 79 M_m_goesPlace (5 + aR a) 3 [_, _, _] (ab_dd tk_m_placing 46 rfl) rfl (by omega) K_m_goesPlace V_m_goesPlace.1 V_m_goesPlace.2 L_m_404 rfl (Nat.le_of_ble_eq_true rfl) (by decide) (Nat.lt_of_lt_of_le (by decide) hm.1) (hm.2.1 0 (by decide)) rfl (c_m_goesPlace ha nn hnn (aR a) 0 0 (fun _ => 0) (-1, -1, sI S 137) _ (by omega) (by exact hm) (by exact hA) plI_0 (fun k hk => absurd hk (by omega)) ⟨rfl, rfl, fun k hk => rfl⟩) (fun v1 w1 h1 => ?_)
            obtain ⟨rfl, U2, rfl, um2, uA2, uE2, uF2, uP, uB⟩ := h1
            refine x_iload_n 80 2 (ab_dd tk_m_placing 47 rfl) rfl rfl rfl ?_
            refine x_if_ne 83 90 (ab_dd tk_m_placing 48 rfl) rfl (by decide) (fun h80 => ?_) (fun h80 => ?_)
            · refine x_iload_n 91 2 (ab_dd tk_m_placing 52 rfl) rfl rfl rfl ?_
              refine x_iconst 92 1 (ab_dd tk_m_placing 53 rfl) rfl (by decide) (x_topn 1 rfl ?_)
              refine x_icmp_ne 95 102 (ab_dd tk_m_placing 54 rfl) rfl (by decide) (fun h92 => ?_) (fun h92 => ?_)
              · obtain ⟨q, hq, eq1, eq2⟩ := rid_get h30 hR4
                refine x_aload_n 103 0 (ab_dd tk_m_placing 58 rfl) rfl rfl rfl ?_
                refine t_getP 106 137 (ab_dd tk_m_placing 59 rfl) rfl F_m_69 (by decide) (Nat.lt_of_lt_of_le (by decide) um2.1) (um2.2.1 0 (by decide)) rfl (um2.2.2 33 (by decide)) ?_
                refine x_iload_n 107 2 (ab_dd tk_m_placing 60 rfl) rfl rfl rfl ?_
                refine x_bipush 109 10 (ab_dd tk_m_placing 61 rfl) rfl (by decide) (x_topn 10 rfl ?_)
                refine x_isub 110 (ab_dd tk_m_placing 62 rfl) rfl (x_topn q eq1 ?_)
                refine t_iald 111 q (ab_dd tk_m_placing 63 rfl) rfl (by decide) (Nat.lt_of_lt_of_le (by decide) um2.1) (um2.2.1 17 (by decide)) rfl (by omega) (by decide) (x_topx (((plX (aR a) (aR a) 0 0 (fun _ => 0)).foldl (plU a nn) (-1, -1, sI S 137)).2.2 q) (uB.2.2 q hq) ?_)
                exact x_iret (ab_dd tk_m_placing 64 rfl) ⟨_, ⟨rfl, _, rfl, um2, uA2.trans hA.symm, (((((sEq.rf (l := qL)).pI (by decide)).pI (by decide)).pI (by decide)).tr (uE2.mono (by decide))), (fEq.t2 uF2 (by exact (fEq.pI (fEq.pI (fEq.pI (fEq.rf (S := S)) (Or.inr (by decide))) (Or.inr (by decide))) (Or.inr (by decide)))))⟩, Or.inr (Or.inr (Or.inr ⟨Or.inr ⟨Int32.not_lt.mp h18, h30⟩, h45, h57, sI S 137, by rw [en]; rw [show plV x _ = _ from (if_neg h80).trans (if_neg h92), show cN (x - 10) = q from eq2]⟩))⟩
              · refine x_aload_n 96 0 (ab_dd tk_m_placing 55 rfl) rfl rfl rfl ?_
                refine t_getI 99 (ab_dd tk_m_placing 56 rfl) rfl F_m_397 (by decide) (Nat.lt_of_lt_of_le (by decide) um2.1) (um2.2.1 0 (by decide)) rfl (x_topx _ uB.2.1 ?_)
                refine x_goto 111 (ab_dd tk_m_placing 57 rfl) (by decide) ?_
                exact x_iret (ab_dd tk_m_placing 64 rfl) ⟨_, ⟨rfl, _, rfl, um2, uA2.trans hA.symm, (((((sEq.rf (l := qL)).pI (by decide)).pI (by decide)).pI (by decide)).tr (uE2.mono (by decide))), (fEq.t2 uF2 (by exact (fEq.pI (fEq.pI (fEq.pI (fEq.rf (S := S)) (Or.inr (by decide))) (Or.inr (by decide))) (Or.inr (by decide)))))⟩, Or.inr (Or.inr (Or.inr ⟨Or.inr ⟨Int32.not_lt.mp h18, h30⟩, h45, h57, sI S 137, by rw [en]; exact ((if_neg h80).trans (if_pos h92)).symm⟩))⟩
            · refine x_aload_n 84 0 (ab_dd tk_m_placing 49 rfl) rfl rfl rfl ?_
              refine t_getI 87 (ab_dd tk_m_placing 50 rfl) rfl F_m_394 (by decide) (Nat.lt_of_lt_of_le (by decide) um2.1) (um2.2.1 0 (by decide)) rfl (x_topx _ uB.1 ?_)
              refine x_goto 111 (ab_dd tk_m_placing 51 rfl) (by decide) ?_
              exact x_iret (ab_dd tk_m_placing 64 rfl) ⟨_, ⟨rfl, _, rfl, um2, uA2.trans hA.symm, (((((sEq.rf (l := qL)).pI (by decide)).pI (by decide)).pI (by decide)).tr (uE2.mono (by decide))), (fEq.t2 uF2 (by exact (fEq.pI (fEq.pI (fEq.pI (fEq.rf (S := S)) (Or.inr (by decide))) (Or.inr (by decide))) (Or.inr (by decide)))))⟩, Or.inr (Or.inr (Or.inr ⟨Or.inr ⟨Int32.not_lt.mp h18, h30⟩, h45, h57, sI S 137, by rw [en]; exact (if_pos h80).symm⟩))⟩
          · refine x_iconst 61 (-1) (ab_dd tk_m_placing 34 rfl) rfl (by decide) ?_
            exact x_iret (ab_dd tk_m_placing 35 rfl) ⟨-1, ⟨rfl, _, rfl, hm, hA.trans hA.symm, ((sEq.rf (l := qL)).pI (by decide)), (fEq.pI (fEq.rf (S := S)) (Or.inr (by decide)))⟩, Or.inr (Or.inr (Or.inl ⟨Or.inr ⟨Int32.not_lt.mp h18, h30⟩, h45, h57, rfl⟩))⟩
        · refine x_bipush 50 (-3) (ab_dd tk_m_placing 27 rfl) rfl (by decide) ?_
          exact x_iret (ab_dd tk_m_placing 28 rfl) ⟨-3, ⟨rfl, _, rfl, hm, hA.trans hA.symm, ((sEq.rf (l := qL)).pI (by decide)), (fEq.pI (fEq.rf (S := S)) (Or.inr (by decide)))⟩, Or.inr (Or.inl ⟨Or.inr ⟨Int32.not_lt.mp h18, h30⟩, h45, rfl⟩)⟩
      · refine x_bipush 35 (-2) (ab_dd tk_m_placing 19 rfl) rfl (by decide) ?_
        exact x_iret (ab_dd tk_m_placing 20 rfl) ⟨-2, ⟨rfl, _, rfl, hm, hA.trans hA.symm, ((sEq.rf (l := qL)).pI (by decide)), (fEq.pI (fEq.rf (S := S)) (Or.inr (by decide)))⟩, Or.inl ⟨fun z => z.elim h12 (fun y => h30 y.2), rfl⟩⟩
