theorem bN_r (q v : Nat) (f : Nat → Nat → lR) : bN (.inr (q, v)) f = f q v := rfl
theorem fg_g {tp : Nat → Nat} {n r p q : Nat} {F F' : Nat → Int32} (hp : p ≤ n) (hk : tK tp n p = 5 ∨ tK tp n p = 6) (h : fg tp n r p F = .inr (q, F')) : p < q ∧ q ≤ n := by
  have g0 := tE_g (tp := tp) hp (show tK tp n p ≠ 24 by omega)
  have lk : ∀ m k p q F F', p ≤ n → lks tp n r m k p F = .inr (q, F') → p ≤ q ∧ q ≤ n := by
    intro m
    induction m with
    | zero =>
      intro k p q F F' hp h
      obtain ⟨rfl, -⟩ := Prod.mk.inj (Sum.inr.inj h)
      exact ⟨Nat.le_refl _, hp⟩
    | succ m ih =>
      intro k p q F F' hp h
      have hun : lks tp n r (m + 1) k p F = bN (xN tp n 9 p) (fun q v => lks tp n r m (k + 1) q (up1 F (12 + 4 * r + k) (nI v))) := rfl
      rw [hun] at h
      rcases hX : xN tp n 9 p with e | ⟨q1, v⟩
      · rw [hX] at h
        cases h
      · rw [hX] at h
        have g1 := xN_g hp hX
        have g2 := ih _ _ _ _ _ g1.2.1 h
        omega
  unfold fg at h
  split at h
  · rcases hX : xN tp n 4 (tE tp n p) with e | ⟨q1, v⟩
    · rw [hX] at h
      cases h
    · rw [hX] at h
      obtain ⟨rfl, -⟩ := Prod.mk.inj (Sum.inr.inj h)
      have g1 := xN_g g0.2 hX
      omega
  · have := lk _ _ _ _ _ _ g0.2 h
    omega
theorem fg_o {tp : Nat → Nat} {n r p q j : Nat} {F F' : Nat → Int32} (hr : r < 4) (hj : j < 12 ∨ 35 < j ∨ (28 ≤ j ∧ j < 32)) (h : fg tp n r p F = .inr (q, F')) : F' j = F j := by
  have lk : ∀ m k p q F F', k + m = 4 → lks tp n r m k p F = .inr (q, F') → F' j = F j := by
    intro m
    induction m with
    | zero =>
      intro k p q F F' _ h
      obtain ⟨-, rfl⟩ := Prod.mk.inj (Sum.inr.inj h)
      rfl
    | succ m ih =>
      intro k p q F F' hk h
      have hun : lks tp n r (m + 1) k p F = bN (xN tp n 9 p) (fun q v => lks tp n r m (k + 1) q (up1 F (12 + 4 * r + k) (nI v))) := rfl
      rw [hun] at h
      rcases hX : xN tp n 9 p with e | ⟨q1, v⟩
      · rw [hX] at h
        cases h
      · rw [hX] at h
        exact (ih _ _ _ _ _ (by omega) h).trans (up1_o (by omega))
  unfold fg at h
  split at h
  · rcases hX : xN tp n 4 (tE tp n p) with e | ⟨q1, v⟩
    · rw [hX] at h
      cases h
    · rw [hX] at h
      obtain ⟨-, rfl⟩ := Prod.mk.inj (Sum.inr.inj h)
      exact up1_o (by omega)
  · exact lk _ _ _ _ _ _ rfl h
theorem fl_g {tp : Nat → Nat} {n r : Nat} (hr : r < 4) : ∀ g p q F F', p ≤ n → fl tp n r g p F = .inr (q, F') → p ≤ q ∧ q ≤ n ∧ ∀ j, (j < 12 ∨ 35 < j ∨ (28 ≤ j ∧ j < 32)) → F' j = F j
  | 0, p, q, F, F', hp, h => by
    obtain ⟨rfl, rfl⟩ := Prod.mk.inj (Sum.inr.inj h)
    exact ⟨Nat.le_refl _, hp, fun _ _ => rfl⟩
  | g + 1, p, q, F, F', hp, h => by
    unfold fl at h
    split at h
    · rename_i hk
      rcases hX : fg tp n r p F with e | ⟨q1, F1⟩
      · rw [hX] at h
        cases h
      · rw [hX] at h
        have g1 := fg_g hp hk hX
        have g2 := fl_g hr g _ _ _ _ g1.2 h
        exact ⟨by omega, g2.2.1, fun j hj => (g2.2.2 j hj).trans (fg_o hr hj hX)⟩
    · obtain ⟨rfl, rfl⟩ := Prod.mk.inj (Sum.inr.inj h)
      exact ⟨Nat.le_refl _, hp, fun _ _ => rfl⟩
def tb_m_readRider : List (Nat × Instr × Nat) := [(0, .aload_n 0, 1), (1, .getfield 24, 3), (4, .iconst 1, 1), (5, .iaload, 1), (6, .istore_n 1, 1), (7, .iload_n 1, 1), (8, .iconst 4, 1), (9, .if_icmp .ne 8, 3), (12, .aload_n 0, 1), (13, .iconst 4, 1), (14, .invokevirtual 155, 3), (17, .aload_n 0, 1), (18, .getfield 143, 3), (21, .ifCond .eq 4, 3), (24, .return_, 1), (25, .aload_n 0, 1), (26, .invokevirtual 152, 3), (29, .aload_n 0, 1), (30, .getfield 24, 3), (33, .bipush 28, 2), (35, .iload_n 1, 1), (36, .iadd, 1), (37, .aload_n 0, 1), (38, .iconst 3, 1), (39, .iconst 0, 1), (40, .iconst 3, 1), (41, .invokevirtual 203, 3), (44, .iastore, 1), (45, .aload_n 0, 1), (46, .getfield 24, 3), (49, .bipush 8, 2), (51, .iload_n 1, 1), (52, .iadd, 1), (53, .aload_n 0, 1), (54, .iconst 4, 1), (55, .iconst 0, 1), (56, .bipush 9, 2), (58, .invokevirtual 203, 3), (61, .iastore, 1), (62, .aload_n 0, 1), (63, .getfield 24, 3), (66, .bipush 32, 2), (68, .iload_n 1, 1), (69, .iadd, 1), (70, .iconst 2, 1), (71, .iastore, 1), (72, .aload_n 0, 1), (73, .getfield 24, 3), (76, .bipush 36, 2), (78, .iload_n 1, 1), (79, .iadd, 1), (80, .iload_n 1, 1), (81, .iastore, 1), (82, .aload_n 0, 1), (83, .getfield 143, 3), (86, .ifCond .ne 14, 3), (89, .aload_n 0, 1), (90, .iload_n 1, 1), (91, .invokevirtual 207, 3), (94, .ifCond .eq 6, 3), (97, .goto (-15), 3), (100, .aload_n 0, 1), (101, .getfield 143, 3), (104, .ifCond .ne 13, 3), (107, .aload_n 0, 1), (108, .getfield 24, 3), (111, .iconst 1, 1), (112, .dup2, 1), (113, .iaload, 1), (114, .iconst 1, 1), (115, .iadd, 1), (116, .iastore, 1), (117, .return_, 1)]
theorem tk_m_readRider : ∀ q ∈ tb_m_readRider, decode M_m_readRider.2.1 q.1 = .ok q.2 := by decide +kernel
theorem L_readRider {G : ab_G} {S : ab_S} {tp : Nat → Nat} {n p : Nat} (hL : rL S tp n p) (hk2 : tK tp n p = 2) (r : Nat) (hr4 : r ≤ 4) (hF1 : sI S 124 1 = nI r) : ab_C G 8 M_m_readRider [.ref 120] (sw S) (rK S tp n (rdr tp n p (sI S 124))) := by
  refine x_enter [some (.ref 120), none] (by decide) (Nat.le_of_ble_eq_true rfl) rfl (fun v w' h => by obtain ⟨rfl, -⟩ := h; trivial) ?_
  have hk42 := tK_lt tp n p
  have hp := hL.2.2.2.2.2.1
  have hn9 := hL.2.2.2.1
  have hr42 := tN_lt (tp := tp) hp
  have hcr : cN (sI S 124 1) = r := by rw [hF1]; exact cN_nI (by omega)
  have lp : r < 4 → ∀ g (U : ab_S) (q : Nat) (F : Nat → Int32), rF S U → rL U tp n q → sI U 124 = F → F 1 = nI r → n - q < g → rdr tp n p (sI S 124) = lB (fl tp n r g q F) (fun p3 F3 => .inr (p3, up1 F3 1 (nI (r + 1)))) → ab_Ex G 8 M_m_readRider 82 [some (.ref 120), some (.int (nI r))] [] (sw U) (rK S tp n (rdr tp n p (sI S 124))) := by
    intro hr3 g
    induction g with
    | zero => intro U q F _ _ _ _ z; exact absurd z (by omega)
    | succ g ih =>
      intro U q F uF0 uL0 uf0 hF1' hg hsp0
      have hq := uL0.2.2.2.2.2.1
      have hun : fl tp n r (g + 1) q F = if tK tp n q = 5 ∨ tK tp n q = 6 then lB (fg tp n r q F) (fun q F => fl tp n r g q F) else .inr (q, F) := rfl
      refine x_aload_n 83 0 (ab_dd tk_m_readRider 53 rfl) rfl rfl rfl ?_
      refine t_getI 86 (ab_dd tk_m_readRider 54 rfl) rfl F_m_143 (by decide) (Nat.lt_of_lt_of_le (by decide) uL0.1.1) (uL0.1.2.1 0 (by decide)) rfl (x_topn 0 uL0.2.2.2.2.2.2.2 ?_)
      refine x_if_ne_f 89 (ab_dd tk_m_readRider 55 rfl) rfl 100 (by decide) ((nI_eq (a := 0) (b := 0) (by omega) (by omega)).mpr (show 0 = 0 by omega)) ?_
      refine x_aload_n 90 0 (ab_dd tk_m_readRider 56 rfl) rfl rfl rfl ?_
      refine x_iload_n 91 1 (ab_dd tk_m_readRider 57 rfl) rfl rfl rfl ?_
      refine t_callV 94 M_m_readFlag 7 1 [_] (ab_dd tk_m_readRider 58 rfl) rfl (by decide) K_m_readFlag V_m_readFlag.1 V_m_readFlag.2 L_m_207 rfl (Nat.le_of_ble_eq_true rfl) (by decide) (Nat.lt_of_lt_of_le (by decide) uL0.1.1) (uL0.1.2.1 0 (by decide)) rfl (L_readFlag uL0 r hr3) (fun v1 w1 h1 => ?_)
      obtain ⟨U1, rfl, uF1, uO1⟩ := h1
      rcases uO1 with ⟨hno, rfl, rfl⟩ | ⟨hyes, uO1⟩
      · refine x_if_eq_t 100 (ab_dd tk_m_readRider 59 rfl) (by decide) rfl ?_
        refine x_aload_n 101 0 (ab_dd tk_m_readRider 61 rfl) rfl rfl rfl ?_
        refine t_getI 104 (ab_dd tk_m_readRider 62 rfl) rfl F_m_143 (by decide) (Nat.lt_of_lt_of_le (by decide) uL0.1.1) (uL0.1.2.1 0 (by decide)) rfl (x_topn 0 uL0.2.2.2.2.2.2.2 ?_)
        refine x_if_ne_f 107 (ab_dd tk_m_readRider 63 rfl) rfl 117 (by decide) ((nI_eq (a := 0) (b := 0) (by omega) (by omega)).mpr (show 0 = 0 by omega)) ?_
        refine x_aload_n 108 0 (ab_dd tk_m_readRider 64 rfl) rfl rfl rfl ?_
        refine t_getP 111 124 (ab_dd tk_m_readRider 65 rfl) rfl F_m_24 (by decide) (Nat.lt_of_lt_of_le (by decide) uL0.1.1) (uL0.1.2.1 0 (by decide)) rfl (uL0.1.2.2 4 (by decide)) ?_
        refine x_iconst 112 1 (ab_dd tk_m_readRider 66 rfl) rfl (by decide) (x_topn 1 rfl ?_)
        refine x_dup2 113 (ab_dd tk_m_readRider 67 rfl) rfl rfl rfl ?_
        refine t_iald 114 1 (ab_dd tk_m_readRider 68 rfl) rfl (by decide) (Nat.lt_of_lt_of_le (by decide) uL0.1.1) (uL0.1.2.1 4 (by decide)) rfl (by decide) (by decide) (x_topn r ((congrFun (by exact uf0) 1).trans hF1') ?_)
        refine x_iconst 115 1 (ab_dd tk_m_readRider 69 rfl) rfl (by decide) (x_topn 1 rfl ?_)
        refine x_iadd 116 (ab_dd tk_m_readRider 70 rfl) rfl (x_topn (r + 1) (nI_add _ _) ?_)
        refine t_iast 117 1 (ab_dd tk_m_readRider 71 rfl) rfl (by decide) (Nat.lt_of_lt_of_le (by decide) uL0.1.1) (uL0.1.2.1 4 (by decide)) rfl (by decide) (by decide) ?_
        exact x_vret (ab_dd tk_m_readRider 72 rfl) ⟨rfl, _, rfl, (rF.p4 uF0), by rw [hsp0, hun, if_neg hno]; exact ⟨(rL.p4 uL0), (row_up 1 (nI (r + 1)) uf0)⟩⟩
      · rw [uf0] at uO1
        rcases hX1 : fg tp n r q F with e1 | ⟨q1, F1⟩
        · rw [hX1] at uO1
          obtain ⟨uD1, rfl⟩ := uO1
          have hu1 := uD1.2.2.2
          refine x_if_eq_t 100 (ab_dd tk_m_readRider 59 rfl) (by decide) rfl ?_
          refine x_aload_n 101 0 (ab_dd tk_m_readRider 61 rfl) rfl rfl rfl ?_
          refine t_getI 104 (ab_dd tk_m_readRider 62 rfl) rfl F_m_143 (by decide) (Nat.lt_of_lt_of_le (by decide) uD1.1.1) (uD1.1.2.1 0 (by decide)) rfl (x_topn e1.1 uD1.2.1 ?_)
          refine x_if_ne_t 117 (ab_dd tk_m_readRider 63 rfl) (by decide) (fun z => absurd ((nI_eq (a := e1.1) (b := 0) (by omega) (by omega)).mp z) (show ¬ (e1.1 = 0) by omega)) ?_
          exact x_vret (ab_dd tk_m_readRider 72 rfl) ⟨rfl, _, rfl, (uF0.tr uF1), by rw [hsp0, hun, if_pos hyes, hX1]; exact uD1⟩
        · rw [hX1] at uO1
          obtain ⟨rfl, uL1, uC1⟩ := uO1
          have hg1 := fg_g hq hyes hX1
          refine x_if_eq_f 97 (ab_dd tk_m_readRider 59 rfl) rfl 100 (by decide) (by decide) ?_
          refine x_goto 82 (ab_dd tk_m_readRider 60 rfl) (by decide) ?_
          exact ih _ _ _ (uF0.tr uF1) uL1 uC1 ((fg_o hr3 (by omega) hX1).trans hF1') (by omega) (by rw [hsp0, hun, if_pos hyes, hX1]; rfl)
  have dd : ∀ (U : ab_S) (e : Nat × Nat), rF S U → rD U e → rdr tp n p (sI S 124) = .inl e → ab_Ex G 8 M_m_readRider 82 [some (.ref 120), some (.int (nI r))] [] (sw U) (rK S tp n (rdr tp n p (sI S 124))) := by
    intro U e uF0 uD0 hsp0
    have hu0 := uD0.2.2.2
    refine x_aload_n 83 0 (ab_dd tk_m_readRider 53 rfl) rfl rfl rfl ?_
    refine t_getI 86 (ab_dd tk_m_readRider 54 rfl) rfl F_m_143 (by decide) (Nat.lt_of_lt_of_le (by decide) uD0.1.1) (uD0.1.2.1 0 (by decide)) rfl (x_topn e.1 uD0.2.1 ?_)
    refine x_if_ne_t 100 (ab_dd tk_m_readRider 55 rfl) (by decide) (fun z => absurd ((nI_eq (a := e.1) (b := 0) (by omega) (by omega)).mp z) (show ¬ (e.1 = 0) by omega)) ?_
    refine x_aload_n 101 0 (ab_dd tk_m_readRider 61 rfl) rfl rfl rfl ?_
    refine t_getI 104 (ab_dd tk_m_readRider 62 rfl) rfl F_m_143 (by decide) (Nat.lt_of_lt_of_le (by decide) uD0.1.1) (uD0.1.2.1 0 (by decide)) rfl (x_topn e.1 uD0.2.1 ?_)
    refine x_if_ne_t 117 (ab_dd tk_m_readRider 63 rfl) (by decide) (fun z => absurd ((nI_eq (a := e.1) (b := 0) (by omega) (by omega)).mp z) (show ¬ (e.1 = 0) by omega)) ?_
    exact x_vret (ab_dd tk_m_readRider 72 rfl) ⟨rfl, _, rfl, uF0, by rw [hsp0]; exact uD0⟩
  refine x_aload_n 1 0 (ab_dd tk_m_readRider 0 rfl) rfl rfl rfl ?_
  refine t_getP 4 124 (ab_dd tk_m_readRider 1 rfl) rfl F_m_24 (by decide) (Nat.lt_of_lt_of_le (by decide) hL.1.1) (hL.1.2.1 0 (by decide)) rfl (hL.1.2.2 4 (by decide)) ?_
  refine x_iconst 5 1 (ab_dd tk_m_readRider 2 rfl) rfl (by decide) (x_topn 1 rfl ?_)
  refine t_iald 6 1 (ab_dd tk_m_readRider 3 rfl) rfl (by decide) (Nat.lt_of_lt_of_le (by decide) hL.1.1) (hL.1.2.1 4 (by decide)) rfl (by decide) (by decide) (x_topn r hF1 ?_)
  refine x_istore_n 7 [some (.ref 120), some (.int (nI r))] 1 (ab_dd tk_m_readRider 4 rfl) rfl rfl (by decide) rfl ?_
  refine x_iload_n 8 1 (ab_dd tk_m_readRider 5 rfl) rfl rfl rfl ?_
  refine x_iconst 9 4 (ab_dd tk_m_readRider 6 rfl) rfl (by decide) (x_topn 4 rfl ?_)
  refine xn_icmp_ne 12 17 (ab_dd tk_m_readRider 7 rfl) rfl (by decide) (by omega) (by omega) (fun h9 => ?_) (fun h9 => ?_)
  · refine x_aload_n 18 0 (ab_dd tk_m_readRider 11 rfl) rfl rfl rfl ?_
    refine t_getI 21 (ab_dd tk_m_readRider 12 rfl) rfl F_m_143 (by decide) (Nat.lt_of_lt_of_le (by decide) hL.1.1) (hL.1.2.1 0 (by decide)) rfl (x_topn 0 hL.2.2.2.2.2.2.2 ?_)
    refine x_if_eq_t 25 (ab_dd tk_m_readRider 13 rfl) (by decide) ((nI_eq (a := 0) (b := 0) (by omega) (by omega)).mpr (show 0 = 0 by omega)) ?_
    refine x_aload_n 26 0 (ab_dd tk_m_readRider 15 rfl) rfl rfl rfl ?_
    refine t_callV 29 M_m_next 5 0 [] (ab_dd tk_m_readRider 16 rfl) rfl (by first | decide | omega) K_m_next V_m_next.1 V_m_next.2 L_m_152 rfl (Nat.le_of_ble_eq_true rfl) (by decide) (Nat.lt_of_lt_of_le (by decide) hL.1.1) (hL.1.2.1 0 (by decide)) rfl (L_next hL (by omega)) (fun v1 w1 h1 => ?_)
    obtain ⟨rfl, U1, rfl, uF1, uC1, uL1⟩ := h1
    have ht1 := tE_g hL.2.2.2.2.2.1 (show tK tp n p ≠ 24 by omega)
    refine x_aload_n 30 0 (ab_dd tk_m_readRider 17 rfl) rfl rfl rfl ?_
    refine t_getP 33 124 (ab_dd tk_m_readRider 18 rfl) rfl F_m_24 (by decide) (Nat.lt_of_lt_of_le (by decide) uL1.1.1) (uL1.1.2.1 0 (by decide)) rfl (uL1.1.2.2 4 (by decide)) ?_
    refine x_bipush 35 28 (ab_dd tk_m_readRider 19 rfl) rfl (by decide) (x_topn 28 rfl ?_)
    refine x_iload_n 36 1 (ab_dd tk_m_readRider 20 rfl) rfl rfl rfl ?_
    refine x_iadd 37 (ab_dd tk_m_readRider 21 rfl) rfl (x_topn (28 + r) (nI_add _ _) ?_)
    refine x_aload_n 38 0 (ab_dd tk_m_readRider 22 rfl) rfl rfl rfl ?_
    refine x_iconst 39 3 (ab_dd tk_m_readRider 23 rfl) rfl (by decide) (x_topn 3 rfl ?_)
    refine x_iconst 40 0 (ab_dd tk_m_readRider 24 rfl) rfl (by decide) (x_topn 0 rfl ?_)
    refine x_iconst 41 3 (ab_dd tk_m_readRider 25 rfl) rfl (by decide) (x_topn 3 rfl ?_)
    refine t_callV 44 M_m_named 7 3 [_, _, _] (ab_dd tk_m_readRider 26 rfl) rfl (by first | decide | omega) K_m_named V_m_named.1 V_m_named.2 L_m_203 rfl (Nat.le_of_ble_eq_true rfl) (by decide) (Nat.lt_of_lt_of_le (by decide) uL1.1.1) (uL1.1.2.1 0 (by decide)) rfl (L_named uL1 3 3 (by decide) (by decide) (by decide)) (fun v1 w1 h1 => ?_)
    obtain ⟨U2, rfl, uF2, uC2, uO2⟩ := h1
    rcases hX2 : xM tp n 3 3 (tE tp n p) with e2 | ⟨q2, v2⟩
    · rw [hX2] at uO2
      obtain ⟨uD2, x2, rfl⟩ := uO2
      have hu2 := uD2.2.2.2
      refine t_iast 45 (28 + r) (ab_dd tk_m_readRider 27 rfl) rfl (by decide) (Nat.lt_of_lt_of_le (by decide) uD2.1.1) (uD2.1.2.1 4 (by decide)) rfl (by omega) (by decide) ?_
      refine x_aload_n 46 0 (ab_dd tk_m_readRider 28 rfl) rfl rfl rfl ?_
      refine t_getP 49 124 (ab_dd tk_m_readRider 29 rfl) rfl F_m_24 (by decide) (Nat.lt_of_lt_of_le (by decide) uD2.1.1) (uD2.1.2.1 0 (by decide)) rfl (uD2.1.2.2 4 (by decide)) ?_
      refine x_bipush 51 8 (ab_dd tk_m_readRider 30 rfl) rfl (by decide) (x_topn 8 rfl ?_)
      refine x_iload_n 52 1 (ab_dd tk_m_readRider 31 rfl) rfl rfl rfl ?_
      refine x_iadd 53 (ab_dd tk_m_readRider 32 rfl) rfl (x_topn (8 + r) (nI_add _ _) ?_)
      refine x_aload_n 54 0 (ab_dd tk_m_readRider 33 rfl) rfl rfl rfl ?_
      refine x_iconst 55 4 (ab_dd tk_m_readRider 34 rfl) rfl (by decide) (x_topn 4 rfl ?_)
      refine x_iconst 56 0 (ab_dd tk_m_readRider 35 rfl) rfl (by decide) (x_topn 0 rfl ?_)
      refine x_bipush 58 9 (ab_dd tk_m_readRider 36 rfl) rfl (by decide) (x_topn 9 rfl ?_)
      refine t_callV 61 M_m_named 7 3 [_, _, _] (ab_dd tk_m_readRider 37 rfl) rfl (by first | decide | omega) K_m_named V_m_named.1 V_m_named.2 L_m_203 rfl (Nat.le_of_ble_eq_true rfl) (by decide) (Nat.lt_of_lt_of_le (by decide) uD2.1.1) (uD2.1.2.1 0 (by decide)) rfl (D_named (rD.p4 uD2) _ _ _) (fun v1 w1 h1 => ?_)
      obtain ⟨⟨x3, rfl⟩, rfl⟩ := h1
      refine t_iast 62 (8 + r) (ab_dd tk_m_readRider 38 rfl) rfl (by decide) (Nat.lt_of_lt_of_le (by decide) uD2.1.1) (uD2.1.2.1 4 (by decide)) rfl (by omega) (by decide) ?_
      refine x_aload_n 63 0 (ab_dd tk_m_readRider 39 rfl) rfl rfl rfl ?_
      refine t_getP 66 124 (ab_dd tk_m_readRider 40 rfl) rfl F_m_24 (by decide) (Nat.lt_of_lt_of_le (by decide) uD2.1.1) (uD2.1.2.1 0 (by decide)) rfl (uD2.1.2.2 4 (by decide)) ?_
      refine x_bipush 68 32 (ab_dd tk_m_readRider 41 rfl) rfl (by decide) (x_topn 32 rfl ?_)
      refine x_iload_n 69 1 (ab_dd tk_m_readRider 42 rfl) rfl rfl rfl ?_
      refine x_iadd 70 (ab_dd tk_m_readRider 43 rfl) rfl (x_topn (32 + r) (nI_add _ _) ?_)
      refine x_iconst 71 2 (ab_dd tk_m_readRider 44 rfl) rfl (by decide) (x_topn 2 rfl ?_)
      refine t_iast 72 (32 + r) (ab_dd tk_m_readRider 45 rfl) rfl (by decide) (Nat.lt_of_lt_of_le (by decide) uD2.1.1) (uD2.1.2.1 4 (by decide)) rfl (by omega) (by decide) ?_
      refine x_aload_n 73 0 (ab_dd tk_m_readRider 46 rfl) rfl rfl rfl ?_
      refine t_getP 76 124 (ab_dd tk_m_readRider 47 rfl) rfl F_m_24 (by decide) (Nat.lt_of_lt_of_le (by decide) uD2.1.1) (uD2.1.2.1 0 (by decide)) rfl (uD2.1.2.2 4 (by decide)) ?_
      refine x_bipush 78 36 (ab_dd tk_m_readRider 48 rfl) rfl (by decide) (x_topn 36 rfl ?_)
      refine x_iload_n 79 1 (ab_dd tk_m_readRider 49 rfl) rfl rfl rfl ?_
      refine x_iadd 80 (ab_dd tk_m_readRider 50 rfl) rfl (x_topn (36 + r) (nI_add _ _) ?_)
      refine x_iload_n 81 1 (ab_dd tk_m_readRider 51 rfl) rfl rfl rfl ?_
      refine t_iast 82 (36 + r) (ab_dd tk_m_readRider 52 rfl) rfl (by decide) (Nat.lt_of_lt_of_le (by decide) uD2.1.1) (uD2.1.2.1 4 (by decide)) rfl (by omega) (by decide) ?_
      have hsp : rdr tp n p (sI S 124) = .inl (e2) := by
        unfold rdr
        rw [hcr]
        rw [if_neg h9]
        rw [hX2]
        try rfl
      exact dd _ _ (rF.p4 (rF.p4 (rF.p4 (rF.p4 ((rF.rf.tr uF1).tr uF2))))) (rD.p4 (rD.p4 (rD.p4 (rD.p4 uD2)))) hsp
    · rw [hX2] at uO2
      obtain ⟨rfl, uL2, uH2⟩ := uO2
      have hg2 := xM_g (by decide) uL1.2.2.2.2.2.1 hX2
      refine t_iast 45 (28 + r) (ab_dd tk_m_readRider 27 rfl) rfl (by decide) (Nat.lt_of_lt_of_le (by decide) uL2.1.1) (uL2.1.2.1 4 (by decide)) rfl (by omega) (by decide) ?_
      refine x_aload_n 46 0 (ab_dd tk_m_readRider 28 rfl) rfl rfl rfl ?_
      refine t_getP 49 124 (ab_dd tk_m_readRider 29 rfl) rfl F_m_24 (by decide) (Nat.lt_of_lt_of_le (by decide) uL2.1.1) (uL2.1.2.1 0 (by decide)) rfl (uL2.1.2.2 4 (by decide)) ?_
      refine x_bipush 51 8 (ab_dd tk_m_readRider 30 rfl) rfl (by decide) (x_topn 8 rfl ?_)
      refine x_iload_n 52 1 (ab_dd tk_m_readRider 31 rfl) rfl rfl rfl ?_
      refine x_iadd 53 (ab_dd tk_m_readRider 32 rfl) rfl (x_topn (8 + r) (nI_add _ _) ?_)
      refine x_aload_n 54 0 (ab_dd tk_m_readRider 33 rfl) rfl rfl rfl ?_
      refine x_iconst 55 4 (ab_dd tk_m_readRider 34 rfl) rfl (by decide) (x_topn 4 rfl ?_)
      refine x_iconst 56 0 (ab_dd tk_m_readRider 35 rfl) rfl (by decide) (x_topn 0 rfl ?_)
      refine x_bipush 58 9 (ab_dd tk_m_readRider 36 rfl) rfl (by decide) (x_topn 9 rfl ?_)
      refine t_callV 61 M_m_named 7 3 [_, _, _] (ab_dd tk_m_readRider 37 rfl) rfl (by first | decide | omega) K_m_named V_m_named.1 V_m_named.2 L_m_203 rfl (Nat.le_of_ble_eq_true rfl) (by decide) (Nat.lt_of_lt_of_le (by decide) uL2.1.1) (uL2.1.2.1 0 (by decide)) rfl (L_named (rL.p4 uL2) 4 9 (by decide) (by decide) (by decide)) (fun v1 w1 h1 => ?_)
      obtain ⟨U4, rfl, uF4, uC4, uO4⟩ := h1
      rcases hX4 : xM tp n 4 9 q2 with e4 | ⟨q4, v4⟩
      · rw [hX4] at uO4
        obtain ⟨uD4, x4, rfl⟩ := uO4
        have hu4 := uD4.2.2.2
        refine t_iast 62 (8 + r) (ab_dd tk_m_readRider 38 rfl) rfl (by decide) (Nat.lt_of_lt_of_le (by decide) uD4.1.1) (uD4.1.2.1 4 (by decide)) rfl (by omega) (by decide) ?_
        refine x_aload_n 63 0 (ab_dd tk_m_readRider 39 rfl) rfl rfl rfl ?_
        refine t_getP 66 124 (ab_dd tk_m_readRider 40 rfl) rfl F_m_24 (by decide) (Nat.lt_of_lt_of_le (by decide) uD4.1.1) (uD4.1.2.1 0 (by decide)) rfl (uD4.1.2.2 4 (by decide)) ?_
        refine x_bipush 68 32 (ab_dd tk_m_readRider 41 rfl) rfl (by decide) (x_topn 32 rfl ?_)
        refine x_iload_n 69 1 (ab_dd tk_m_readRider 42 rfl) rfl rfl rfl ?_
        refine x_iadd 70 (ab_dd tk_m_readRider 43 rfl) rfl (x_topn (32 + r) (nI_add _ _) ?_)
        refine x_iconst 71 2 (ab_dd tk_m_readRider 44 rfl) rfl (by decide) (x_topn 2 rfl ?_)
        refine t_iast 72 (32 + r) (ab_dd tk_m_readRider 45 rfl) rfl (by decide) (Nat.lt_of_lt_of_le (by decide) uD4.1.1) (uD4.1.2.1 4 (by decide)) rfl (by omega) (by decide) ?_
        refine x_aload_n 73 0 (ab_dd tk_m_readRider 46 rfl) rfl rfl rfl ?_
        refine t_getP 76 124 (ab_dd tk_m_readRider 47 rfl) rfl F_m_24 (by decide) (Nat.lt_of_lt_of_le (by decide) uD4.1.1) (uD4.1.2.1 0 (by decide)) rfl (uD4.1.2.2 4 (by decide)) ?_
        refine x_bipush 78 36 (ab_dd tk_m_readRider 48 rfl) rfl (by decide) (x_topn 36 rfl ?_)
        refine x_iload_n 79 1 (ab_dd tk_m_readRider 49 rfl) rfl rfl rfl ?_
        refine x_iadd 80 (ab_dd tk_m_readRider 50 rfl) rfl (x_topn (36 + r) (nI_add _ _) ?_)
        refine x_iload_n 81 1 (ab_dd tk_m_readRider 51 rfl) rfl rfl rfl ?_
        refine t_iast 82 (36 + r) (ab_dd tk_m_readRider 52 rfl) rfl (by decide) (Nat.lt_of_lt_of_le (by decide) uD4.1.1) (uD4.1.2.1 4 (by decide)) rfl (by omega) (by decide) ?_
        have hsp : rdr tp n p (sI S 124) = .inl (e4) := by
          unfold rdr
          rw [hcr]
          rw [if_neg h9]
          rw [hX2, bN_r]
          try dsimp only
          rw [hX4]
          try rfl
        exact dd _ _ (rF.p4 (rF.p4 (rF.p4 ((rF.p4 ((rF.rf.tr uF1).tr uF2)).tr uF4)))) (rD.p4 (rD.p4 (rD.p4 uD4))) hsp
      · rw [hX4] at uO4
        obtain ⟨rfl, uL4, uH4⟩ := uO4
        have hg4 := xM_g (by decide) uL2.2.2.2.2.2.1 hX4
        refine t_iast 62 (8 + r) (ab_dd tk_m_readRider 38 rfl) rfl (by decide) (Nat.lt_of_lt_of_le (by decide) uL4.1.1) (uL4.1.2.1 4 (by decide)) rfl (by omega) (by decide) ?_
        refine x_aload_n 63 0 (ab_dd tk_m_readRider 39 rfl) rfl rfl rfl ?_
        refine t_getP 66 124 (ab_dd tk_m_readRider 40 rfl) rfl F_m_24 (by decide) (Nat.lt_of_lt_of_le (by decide) uL4.1.1) (uL4.1.2.1 0 (by decide)) rfl (uL4.1.2.2 4 (by decide)) ?_
        refine x_bipush 68 32 (ab_dd tk_m_readRider 41 rfl) rfl (by decide) (x_topn 32 rfl ?_)
        refine x_iload_n 69 1 (ab_dd tk_m_readRider 42 rfl) rfl rfl rfl ?_
        refine x_iadd 70 (ab_dd tk_m_readRider 43 rfl) rfl (x_topn (32 + r) (nI_add _ _) ?_)
        refine x_iconst 71 2 (ab_dd tk_m_readRider 44 rfl) rfl (by decide) (x_topn 2 rfl ?_)
        refine t_iast 72 (32 + r) (ab_dd tk_m_readRider 45 rfl) rfl (by decide) (Nat.lt_of_lt_of_le (by decide) uL4.1.1) (uL4.1.2.1 4 (by decide)) rfl (by omega) (by decide) ?_
        refine x_aload_n 73 0 (ab_dd tk_m_readRider 46 rfl) rfl rfl rfl ?_
        refine t_getP 76 124 (ab_dd tk_m_readRider 47 rfl) rfl F_m_24 (by decide) (Nat.lt_of_lt_of_le (by decide) uL4.1.1) (uL4.1.2.1 0 (by decide)) rfl (uL4.1.2.2 4 (by decide)) ?_
        refine x_bipush 78 36 (ab_dd tk_m_readRider 48 rfl) rfl (by decide) (x_topn 36 rfl ?_)
        refine x_iload_n 79 1 (ab_dd tk_m_readRider 49 rfl) rfl rfl rfl ?_
        refine x_iadd 80 (ab_dd tk_m_readRider 50 rfl) rfl (x_topn (36 + r) (nI_add _ _) ?_)
        refine x_iload_n 81 1 (ab_dd tk_m_readRider 51 rfl) rfl rfl rfl ?_
        refine t_iast 82 (36 + r) (ab_dd tk_m_readRider 52 rfl) rfl (by decide) (Nat.lt_of_lt_of_le (by decide) uL4.1.1) (uL4.1.2.1 4 (by decide)) rfl (by omega) (by decide) ?_
        have hsp : rdr tp n p (sI S 124) = lB (fl tp n r 1000 q4 (up1 (up1 (up1 (up1 (sI S 124) ((28 + r)) (nI v2)) ((8 + r)) (nI v4)) ((32 + r)) (nI 2)) ((36 + r)) (nI r))) (fun p3 F3 => .inr (p3, up1 F3 1 (nI (r + 1)))) := by
          unfold rdr
          rw [hcr]
          rw [if_neg h9]
          rw [hX2, bN_r]
          try dsimp only
          rw [hX4, bN_r]
          try dsimp only
        exact lp (by omega) 1000 _ _ _ (rF.p4 (rF.p4 (rF.p4 ((rF.p4 ((rF.rf.tr uF1).tr uF2)).tr uF4)))) (rL.p4 (rL.p4 (rL.p4 uL4))) (row_up (36 + r) (nI r) (row_up (32 + r) (nI 2) (row_up (8 + r) (nI v4) (uC4.trans (row_up (28 + r) (nI v2) (uC2.trans (uC1.trans rfl))))))) ((up1_o (by omega)).trans ((up1_o (by omega)).trans ((up1_o (by omega)).trans ((up1_o (by omega)).trans hF1)))) (by omega) hsp
  · refine x_aload_n 13 0 (ab_dd tk_m_readRider 8 rfl) rfl rfl rfl ?_
    refine x_iconst 14 4 (ab_dd tk_m_readRider 9 rfl) rfl (by decide) (x_topn 4 rfl ?_)
    refine t_callV 17 M_m_fails 0 1 [_] (ab_dd tk_m_readRider 10 rfl) rfl (by first | decide | omega) K_m_fails V_m_fails.1 V_m_fails.2 L_m_155 rfl (Nat.le_of_ble_eq_true rfl) (by decide) (Nat.lt_of_lt_of_le (by decide) hL.1.1) (hL.1.2.1 0 (by decide)) rfl (L_fails hL 4 (by decide) (by decide)) (fun v1 w1 h1 => ?_)
    obtain ⟨rfl, U5, rfl, uF5, uQ5, uD5⟩ := h1
    have hu5 := uD5.2.2.2
    refine x_aload_n 18 0 (ab_dd tk_m_readRider 11 rfl) rfl rfl rfl ?_
    refine t_getI 21 (ab_dd tk_m_readRider 12 rfl) rfl F_m_143 (by decide) (Nat.lt_of_lt_of_le (by decide) uD5.1.1) (uD5.1.2.1 0 (by decide)) rfl (x_topn ((pE tp n p 4).1) uD5.2.1 ?_)
    refine x_if_eq_f 24 (ab_dd tk_m_readRider 13 rfl) rfl 25 (by decide) (fun z => absurd ((nI_eq (a := ((pE tp n p 4).1)) (b := 0) (by omega) (by omega)).mp z) (show ¬ (((pE tp n p 4).1) = 0) by omega)) ?_
    have hsp : rdr tp n p (sI S 124) = .inl (pE tp n p 4) := by
      unfold rdr
      rw [hcr, if_pos h9]
    exact x_vret (ab_dd tk_m_readRider 14 rfl) ⟨rfl, _, rfl, (rF.rf.tr uF5), by rw [hsp]; exact uD5⟩
def tb_m_readLaw : List (Nat × Instr × Nat) := [(0, .aload_n 0, 1), (1, .invokevirtual 152, 3), (4, .aload_n 0, 1), (5, .bipush 31, 2), (7, .invokevirtual 178, 3), (10, .ifCond .ne 8, 3), (13, .aload_n 0, 1), (14, .iconst 2, 1), (15, .invokevirtual 155, 3), (18, .aload_n 0, 1), (19, .getfield 24, 3), (22, .sipush 183, 3), (25, .iaload, 1), (26, .istore_n 2, 1), (27, .aload_n 0, 1), (28, .iload_n 1, 1), (29, .putfield 163, 3), (32, .iload_n 1, 1), (33, .ifCond .ne 11, 3), (36, .aload_n 0, 1), (37, .iconst 0, 1), (38, .invokevirtual 175, 3), (41, .goto 8, 3), (44, .aload_n 0, 1), (45, .iconst 0, 1), (46, .invokevirtual 184, 3), (49, .aload_n 0, 1), (50, .getfield 143, 3), (53, .ifCond .eq 4, 3), (56, .return_, 1), (57, .aload_n 0, 1), (58, .getfield 24, 3), (61, .iconst 2, 1), (62, .iload_n 1, 1), (63, .iadd, 1), (64, .iconst 1, 1), (65, .iastore, 1), (66, .aload_n 0, 1), (67, .getfield 24, 3), (70, .iconst 4, 1), (71, .iload_n 1, 1), (72, .iadd, 1), (73, .iload_n 2, 1), (74, .iastore, 1), (75, .aload_n 0, 1), (76, .getfield 24, 3), (79, .bipush 6, 2), (81, .iload_n 1, 1), (82, .iadd, 1), (83, .aload_n 0, 1), (84, .getfield 24, 3), (87, .sipush 183, 3), (90, .iaload, 1), (91, .iload_n 2, 1), (92, .isub, 1), (93, .iastore, 1), (94, .return_, 1)]
theorem tk_m_readLaw : ∀ q ∈ tb_m_readLaw, decode M_m_readLaw.2.1 q.1 = .ok q.2 := by decide +kernel
def rF5 (S S' : ab_S) : Prop := sEq [120, 124] S S' ∧ ∀ j, (j < 6 ∨ j = 8 ∨ (12 < j ∧ j ≠ 15)) → sI S' 120 j = sI S 120 j
theorem rF5.of {S S' : ab_S} (h : rF S S') : rF5 S S' := ⟨h.1, fun j hj => h.2 j (by omega)⟩
theorem rF5.tr {S S1 S2 : ab_S} (h : rF5 S S1) (g : rF5 S1 S2) : rF5 S S2 := ⟨h.1.tr g.1, fun j hj => (g.2 j hj).trans (h.2 j hj)⟩
theorem rF5.p4 {S U : ab_S} {j : Nat} {x : Int32} (h : rF5 S U) : rF5 S (pI U 124 j x) := ⟨h.1.pI (by decide), h.2⟩
theorem rF5.p5 {S S' : ab_S} {x : Int32} (h : rF5 S S') : rF5 S (pI S' 120 15 x) := ⟨h.1.pI (by decide), fun j hj => (gI_k (by omega)).trans (h.2 j hj)⟩
theorem rL.p5 {U : ab_S} {tp : Nat → Nat} {n p : Nat} {x : Int32} (h : rL U tp n p) : rL (pI U 120 15 x) tp n p := by
  obtain ⟨a1, a2, a3, a4, a5, a6, a7, a8⟩ := h
  exact ⟨a1, a2, a3.pI (by decide), a4, (gI_k (by decide)).trans a5, a6, ⟨(gI_k (by decide)).trans a7.1, (gI_k (by decide)).trans a7.2.1, (gI_k (by decide)).trans a7.2.2.1, fun z => (gI_k (by decide)).trans (a7.2.2.2 z)⟩, (gI_k (by decide)).trans a8⟩
theorem rD.p5 {U : ab_S} {e : Nat × Nat} {x : Int32} (h : rD U e) : rD (pI U 120 15 x) e := ⟨h.1, (gI_k (by decide)).trans h.2.1, (gI_k (by decide)).trans h.2.2.1, h.2.2.2⟩
def rK5 (S : ab_S) (tp : Nat → Nat) (n : Nat) (r : lR) (v : Option Value) (w' : ab_H) : Prop := v = none ∧ ∃ S', w' = sw S' ∧ rF5 S S' ∧ (match r with
  | .inl e => rD S' e
  | .inr y => rL S' tp n y.1 ∧ sI S' 124 = y.2)
theorem L_readLaw {G : ab_G} {S : ab_S} {tp : Nat → Nat} {n p : Nat} (hL : rL S tp n p) (la : Nat) (hla : la < 2) (h24 : tK tp n p ≠ 24) (N : Nat) (hN : sI S 124 183 = nI N) (hNp : N ≤ p) : ab_C G 80 M_m_readLaw [.ref 120, .int (nI la)] (sw S) (rK5 S tp n (lwr tp n la p (sI S 124))) := by
  refine x_enter [some (.ref 120), some (.int (nI la)), none] (by decide) (Nat.le_of_ble_eq_true rfl) rfl (fun v w' h => by obtain ⟨rfl, -⟩ := h; trivial) ?_
  have hk42 := tK_lt tp n p
  have hp := hL.2.2.2.2.2.1
  have hn9 := hL.2.2.2.1
  have hr42 := tN_lt (tp := tp) hp
  have hcN : cN (sI S 124 183) = N := by rw [hN]; exact cN_nI (by omega)
  have dd : ∀ (U : ab_S) (e : Nat × Nat) (y : Option Value), rF5 S U → rD U e → lwr tp n la p (sI S 124) = .inl e → ab_Ex G 80 M_m_readLaw 49 [some (.ref 120), some (.int (nI la)), y] [] (sw U) (rK5 S tp n (lwr tp n la p (sI S 124))) := by
    intro U e y uF0 uD0 hsp0
    have hu0 := uD0.2.2.2
    refine x_forget 2 ?_
    refine x_aload_n 50 0 (ab_dd tk_m_readLaw 26 rfl) rfl rfl rfl ?_
    refine t_getI 53 (ab_dd tk_m_readLaw 27 rfl) rfl F_m_143 (by decide) (Nat.lt_of_lt_of_le (by decide) uD0.1.1) (uD0.1.2.1 0 (by decide)) rfl (x_topn e.1 uD0.2.1 ?_)
    refine x_if_eq_f 56 (ab_dd tk_m_readLaw 28 rfl) rfl 57 (by decide) (fun z => absurd ((nI_eq (a := e.1) (b := 0) (by omega) (by omega)).mp z) (show ¬ (e.1 = 0) by omega)) ?_
    exact x_vret (ab_dd tk_m_readLaw 29 rfl) ⟨rfl, _, rfl, uF0, by rw [hsp0]; exact uD0⟩
  have ok : ∀ (U : ab_S) (q : Nat) (c : List Nat), rF5 S U → rL U tp n q → sI U 124 = appC N (sI S 124) c → N + c.length ≤ q → lwr tp n la p (sI S 124) = .inr (q, lwF la N (sI S 124) c) → ab_Ex G 80 M_m_readLaw 49 [some (.ref 120), some (.int (nI la)), some (.int (nI N))] [] (sw U) (rK5 S tp n (lwr tp n la p (sI S 124))) := by
    intro U q c uF0 uL0 uf0 hcq hsp0
    have hqn := uL0.2.2.2.2.2.1
    have hlen : (appC N (sI S 124) c) 183 = nI (N + c.length) := appC_N _ _ _
    refine x_aload_n 50 0 (ab_dd tk_m_readLaw 26 rfl) rfl rfl rfl ?_
    refine t_getI 53 (ab_dd tk_m_readLaw 27 rfl) rfl F_m_143 (by decide) (Nat.lt_of_lt_of_le (by decide) uL0.1.1) (uL0.1.2.1 0 (by decide)) rfl (x_topn 0 uL0.2.2.2.2.2.2.2 ?_)
    refine x_if_eq_t 57 (ab_dd tk_m_readLaw 28 rfl) (by decide) ((nI_eq (a := 0) (b := 0) (by omega) (by omega)).mpr (show 0 = 0 by omega)) ?_
    refine x_aload_n 58 0 (ab_dd tk_m_readLaw 30 rfl) rfl rfl rfl ?_
    refine t_getP 61 124 (ab_dd tk_m_readLaw 31 rfl) rfl F_m_24 (by decide) (Nat.lt_of_lt_of_le (by decide) uL0.1.1) (uL0.1.2.1 0 (by decide)) rfl (uL0.1.2.2 4 (by decide)) ?_
    refine x_iconst 62 2 (ab_dd tk_m_readLaw 32 rfl) rfl (by decide) (x_topn 2 rfl ?_)
    refine x_iload_n 63 1 (ab_dd tk_m_readLaw 33 rfl) rfl rfl rfl ?_
    refine x_iadd 64 (ab_dd tk_m_readLaw 34 rfl) rfl (x_topn (2 + la) (nI_add _ _) ?_)
    refine x_iconst 65 1 (ab_dd tk_m_readLaw 35 rfl) rfl (by decide) (x_topn 1 rfl ?_)
    refine t_iast 66 (2 + la) (ab_dd tk_m_readLaw 36 rfl) rfl (by decide) (Nat.lt_of_lt_of_le (by decide) uL0.1.1) (uL0.1.2.1 4 (by decide)) rfl (by omega) (by decide) ?_
    refine x_aload_n 67 0 (ab_dd tk_m_readLaw 37 rfl) rfl rfl rfl ?_
    refine t_getP 70 124 (ab_dd tk_m_readLaw 38 rfl) rfl F_m_24 (by decide) (Nat.lt_of_lt_of_le (by decide) uL0.1.1) (uL0.1.2.1 0 (by decide)) rfl (uL0.1.2.2 4 (by decide)) ?_
    refine x_iconst 71 4 (ab_dd tk_m_readLaw 39 rfl) rfl (by decide) (x_topn 4 rfl ?_)
    refine x_iload_n 72 1 (ab_dd tk_m_readLaw 40 rfl) rfl rfl rfl ?_
    refine x_iadd 73 (ab_dd tk_m_readLaw 41 rfl) rfl (x_topn (4 + la) (nI_add _ _) ?_)
    refine x_iload_n 74 2 (ab_dd tk_m_readLaw 42 rfl) rfl rfl rfl ?_
    refine t_iast 75 (4 + la) (ab_dd tk_m_readLaw 43 rfl) rfl (by decide) (Nat.lt_of_lt_of_le (by decide) uL0.1.1) (uL0.1.2.1 4 (by decide)) rfl (by omega) (by decide) ?_
    refine x_aload_n 76 0 (ab_dd tk_m_readLaw 44 rfl) rfl rfl rfl ?_
    refine t_getP 79 124 (ab_dd tk_m_readLaw 45 rfl) rfl F_m_24 (by decide) (Nat.lt_of_lt_of_le (by decide) uL0.1.1) (uL0.1.2.1 0 (by decide)) rfl (uL0.1.2.2 4 (by decide)) ?_
    refine x_bipush 81 6 (ab_dd tk_m_readLaw 46 rfl) rfl (by decide) (x_topn 6 rfl ?_)
    refine x_iload_n 82 1 (ab_dd tk_m_readLaw 47 rfl) rfl rfl rfl ?_
    refine x_iadd 83 (ab_dd tk_m_readLaw 48 rfl) rfl (x_topn (6 + la) (nI_add _ _) ?_)
    refine x_aload_n 84 0 (ab_dd tk_m_readLaw 49 rfl) rfl rfl rfl ?_
    refine t_getP 87 124 (ab_dd tk_m_readLaw 50 rfl) rfl F_m_24 (by decide) (Nat.lt_of_lt_of_le (by decide) uL0.1.1) (uL0.1.2.1 0 (by decide)) rfl (uL0.1.2.2 4 (by decide)) ?_
    refine x_sipush 90 183 (ab_dd tk_m_readLaw 51 rfl) rfl (by decide) (x_topn 183 rfl ?_)
    refine t_iald 91 183 (ab_dd tk_m_readLaw 52 rfl) rfl (by decide) (Nat.lt_of_lt_of_le (by decide) uL0.1.1) (uL0.1.2.1 4 (by decide)) rfl (by decide) (by decide) (x_topn (N + c.length) ((congrFun (by exact (row_up (4 + la) (nI N) (row_up (2 + la) (nI 1) uf0))) 183).trans ((up1_o (by omega)).trans ((up1_o (by omega)).trans hlen))) ?_)
    refine x_iload_n 92 2 (ab_dd tk_m_readLaw 53 rfl) rfl rfl rfl ?_
    refine x_isub 93 (ab_dd tk_m_readLaw 54 rfl) rfl (x_topn c.length (by rw [pk_sub (by omega)]; congr 1; omega) ?_)
    refine t_iast 94 (6 + la) (ab_dd tk_m_readLaw 55 rfl) rfl (by decide) (Nat.lt_of_lt_of_le (by decide) uL0.1.1) (uL0.1.2.1 4 (by decide)) rfl (by omega) (by decide) ?_
    exact x_vret (ab_dd tk_m_readLaw 56 rfl) ⟨rfl, _, rfl, (rF5.p4 (rF5.p4 (rF5.p4 uF0))), by rw [hsp0]; exact ⟨(rL.p4 (rL.p4 (rL.p4 uL0))), (row_up (6 + la) (nI c.length) (row_up (4 + la) (nI N) (row_up (2 + la) (nI 1) uf0)))⟩⟩
  have hj := j_all (G := G) (tp := tp) (n := n) hla 8000 8000 (Nat.le_refl _)
  refine x_aload_n 1 0 (ab_dd tk_m_readLaw 0 rfl) rfl rfl rfl ?_
  refine t_callV 4 M_m_next 5 0 [] (ab_dd tk_m_readLaw 1 rfl) rfl (by first | decide | omega) K_m_next V_m_next.1 V_m_next.2 L_m_152 rfl (Nat.le_of_ble_eq_true rfl) (by decide) (Nat.lt_of_lt_of_le (by decide) hL.1.1) (hL.1.2.1 0 (by decide)) rfl (L_next hL (by omega)) (fun v1 w1 h1 => ?_)
  obtain ⟨rfl, U1, rfl, uF1, uC1, uL1⟩ := h1
  have ht1 := tE_g hL.2.2.2.2.2.1 (show tK tp n p ≠ 24 by omega)
  refine x_aload_n 5 0 (ab_dd tk_m_readLaw 2 rfl) rfl rfl rfl ?_
  refine x_bipush 7 31 (ab_dd tk_m_readLaw 3 rfl) rfl (by decide) (x_topn 31 rfl ?_)
  refine t_callV 10 M_m_eats 6 1 [_] (ab_dd tk_m_readLaw 4 rfl) rfl (by first | decide | omega) K_m_eats V_m_eats.1 V_m_eats.2 L_m_178 rfl (Nat.le_of_ble_eq_true rfl) (by decide) (Nat.lt_of_lt_of_le (by decide) uL1.1.1) (uL1.1.2.1 0 (by decide)) rfl (L_eats uL1 31 (by decide) (by decide)) (fun v1 w1 h1 => ?_)
  rcases h1 with ⟨hk2, rfl, U2, rfl, uF2, uC2, uL2⟩ | ⟨hk2, rfl, rfl⟩
  · have ht2 := tE_g uL1.2.2.2.2.2.1 (show tK tp n (tE tp n p) ≠ 24 by omega)
    refine x_if_ne_t 18 (ab_dd tk_m_readLaw 5 rfl) (by decide) (by decide) ?_
    refine x_aload_n 19 0 (ab_dd tk_m_readLaw 9 rfl) rfl rfl rfl ?_
    refine t_getP 22 124 (ab_dd tk_m_readLaw 10 rfl) rfl F_m_24 (by decide) (Nat.lt_of_lt_of_le (by decide) uL2.1.1) (uL2.1.2.1 0 (by decide)) rfl (uL2.1.2.2 4 (by decide)) ?_
    refine x_sipush 25 183 (ab_dd tk_m_readLaw 11 rfl) rfl (by decide) (x_topn 183 rfl ?_)
    refine t_iald 26 183 (ab_dd tk_m_readLaw 12 rfl) rfl (by decide) (Nat.lt_of_lt_of_le (by decide) uL2.1.1) (uL2.1.2.1 4 (by decide)) rfl (by decide) (by decide) (x_topn N ((congrFun (by exact (uC2.trans (uC1.trans rfl))) 183).trans hN) ?_)
    refine x_istore_n 27 [some (.ref 120), some (.int (nI la)), some (.int (nI N))] 2 (ab_dd tk_m_readLaw 13 rfl) rfl rfl (by decide) rfl ?_
    refine x_aload_n 28 0 (ab_dd tk_m_readLaw 14 rfl) rfl rfl rfl ?_
    refine x_iload_n 29 1 (ab_dd tk_m_readLaw 15 rfl) rfl rfl rfl ?_
    refine t_putI 32 (ab_dd tk_m_readLaw 16 rfl) rfl F_m_163 (by decide) (Nat.lt_of_lt_of_le (by decide) uL2.1.1) (uL2.1.2.1 0 (by decide)) rfl rfl rfl ?_
    refine x_iload_n 33 1 (ab_dd tk_m_readLaw 17 rfl) rfl rfl rfl ?_
    refine xn_if_ne 36 44 (ab_dd tk_m_readLaw 18 rfl) rfl (by decide) (by omega) (fun h33 => ?_) (fun h33 => ?_)
    · refine x_aload_n 45 0 (ab_dd tk_m_readLaw 23 rfl) rfl rfl rfl ?_
      refine x_iconst 46 0 (ab_dd tk_m_readLaw 24 rfl) rfl (by decide) (x_topn 0 rfl ?_)
      refine t_callV 49 M_m_readTruth 77 1 [_] (ab_dd tk_m_readLaw 25 rfl) rfl (by decide) K_m_readTruth V_m_readTruth.1 V_m_readTruth.2 L_m_184 rfl (Nat.le_of_ble_eq_true rfl) (by decide) (Nat.lt_of_lt_of_le (by decide) uL2.1.1) (uL2.1.2.1 0 (by decide)) rfl (hj.2.2.2.2.2 _ N 0 (tE tp n (tE tp n p)) (rL.p5 uL2) (by exact gI_s) (by exact (congrFun ((gI_o (by decide)).trans (uC2.trans (uC1.trans rfl))) 183).trans hN) (by omega) (by decide) (by omega)) (fun v1 w1 h1 => ?_)
      obtain ⟨rfl, U3, rfl, uF3, uO3⟩ := h1
      rcases hX3 : pS tp n la 8000 5 0 (tE tp n (tE tp n p)) with e3 | ⟨q3, c3⟩
      · rw [hX3] at uO3
        have uD3 : rD U3 e3 := uO3
        exact dd _ _ _ ((rF5.p5 (rF5.of ((rF.rf.tr uF1).tr uF2))).tr (rF5.of uF3)) uD3 (by unfold lwr wX; rw [if_pos hk2, if_neg (by omega)]; try dsimp only; rw [hX3])
      · rw [hX3] at uO3
        obtain ⟨uL3, uC3⟩ := uO3
        have hg3 := pS_len _ _ _ _ _ _ uL2.2.2.2.2.2.1 hX3
        obtain ⟨hga3, hgb3, hgc3, hgd3⟩ := hg3
        have uf3 : sI U3 124 = appC N (sI S 124) c3 := by rw [uC3, ((gI_o (by decide)).trans (uC2.trans (uC1.trans rfl)))]
        exact ok _ _ _ ((rF5.p5 (rF5.of ((rF.rf.tr uF1).tr uF2))).tr (rF5.of uF3)) uL3 uf3 (by simp only [List.length_nil]; omega) (by unfold lwr wX; rw [if_pos hk2, if_neg (by omega), hcN]; try dsimp only; rw [hX3])
    · refine x_aload_n 37 0 (ab_dd tk_m_readLaw 19 rfl) rfl rfl rfl ?_
      refine x_iconst 38 0 (ab_dd tk_m_readLaw 20 rfl) rfl (by decide) (x_topn 0 rfl ?_)
      refine t_callV 41 M_m_readSum 74 1 [_] (ab_dd tk_m_readLaw 21 rfl) rfl (by decide) K_m_readSum V_m_readSum.1 V_m_readSum.2 L_m_175 rfl (Nat.le_of_ble_eq_true rfl) (by decide) (Nat.lt_of_lt_of_le (by decide) uL2.1.1) (uL2.1.2.1 0 (by decide)) rfl (hj.2.2.1 _ N 0 (tE tp n (tE tp n p)) (rL.p5 uL2) (by exact gI_s) (by exact (congrFun ((gI_o (by decide)).trans (uC2.trans (uC1.trans rfl))) 183).trans hN) (by omega) (by decide) (by omega)) (fun v1 w1 h1 => ?_)
      obtain ⟨rfl, U4, rfl, uF4, uO4⟩ := h1
      rcases hX4 : pS tp n la 8000 2 0 (tE tp n (tE tp n p)) with e4 | ⟨q4, c4⟩
      · rw [hX4] at uO4
        have uD4 : rD U4 e4 := uO4
        refine x_goto 49 (ab_dd tk_m_readLaw 22 rfl) (by decide) ?_
        exact dd _ _ _ ((rF5.p5 (rF5.of ((rF.rf.tr uF1).tr uF2))).tr (rF5.of uF4)) uD4 (by unfold lwr wX; rw [if_pos hk2, if_pos h33]; try dsimp only; rw [hX4])
      · rw [hX4] at uO4
        obtain ⟨uL4, uC4⟩ := uO4
        have hg4 := pS_len _ _ _ _ _ _ uL2.2.2.2.2.2.1 hX4
        obtain ⟨hga4, hgb4, hgc4, hgd4⟩ := hg4
        have uf4 : sI U4 124 = appC N (sI S 124) c4 := by rw [uC4, ((gI_o (by decide)).trans (uC2.trans (uC1.trans rfl)))]
        refine x_goto 49 (ab_dd tk_m_readLaw 22 rfl) (by decide) ?_
        exact ok _ _ _ ((rF5.p5 (rF5.of ((rF.rf.tr uF1).tr uF2))).tr (rF5.of uF4)) uL4 uf4 (by simp only [List.length_nil]; omega) (by unfold lwr wX; rw [if_pos hk2, if_pos h33, hcN]; try dsimp only; rw [hX4])
  · skip
    refine x_if_ne_f 13 (ab_dd tk_m_readLaw 5 rfl) rfl 18 (by decide) (by decide) ?_
    refine x_aload_n 14 0 (ab_dd tk_m_readLaw 6 rfl) rfl rfl rfl ?_
    refine x_iconst 15 2 (ab_dd tk_m_readLaw 7 rfl) rfl (by decide) (x_topn 2 rfl ?_)
    refine t_callV 18 M_m_fails 0 1 [_] (ab_dd tk_m_readLaw 8 rfl) rfl (by first | decide | omega) K_m_fails V_m_fails.1 V_m_fails.2 L_m_155 rfl (Nat.le_of_ble_eq_true rfl) (by decide) (Nat.lt_of_lt_of_le (by decide) uL1.1.1) (uL1.1.2.1 0 (by decide)) rfl (L_fails uL1 2 (by decide) (by decide)) (fun v1 w1 h1 => ?_)
    obtain ⟨rfl, U5, rfl, uF5, uQ5, uD5⟩ := h1
    have hu5 := uD5.2.2.2
    refine x_aload_n 19 0 (ab_dd tk_m_readLaw 9 rfl) rfl rfl rfl ?_
    refine t_getP 22 124 (ab_dd tk_m_readLaw 10 rfl) rfl F_m_24 (by decide) (Nat.lt_of_lt_of_le (by decide) uD5.1.1) (uD5.1.2.1 0 (by decide)) rfl (uD5.1.2.2 4 (by decide)) ?_
    refine x_sipush 25 183 (ab_dd tk_m_readLaw 11 rfl) rfl (by decide) (x_topn 183 rfl ?_)
    refine t_iald 26 183 (ab_dd tk_m_readLaw 12 rfl) rfl (by decide) (Nat.lt_of_lt_of_le (by decide) uD5.1.1) (uD5.1.2.1 4 (by decide)) rfl (by decide) (by decide) (x_topx (sI U5 124 183) rfl ?_)
    refine x_istore_n 27 [some (.ref 120), some (.int (nI la)), some (.int ((sI U5 124 183)))] 2 (ab_dd tk_m_readLaw 13 rfl) rfl rfl (by decide) rfl ?_
    refine x_aload_n 28 0 (ab_dd tk_m_readLaw 14 rfl) rfl rfl rfl ?_
    refine x_iload_n 29 1 (ab_dd tk_m_readLaw 15 rfl) rfl rfl rfl ?_
    refine t_putI 32 (ab_dd tk_m_readLaw 16 rfl) rfl F_m_163 (by decide) (Nat.lt_of_lt_of_le (by decide) uD5.1.1) (uD5.1.2.1 0 (by decide)) rfl rfl rfl ?_
    refine x_iload_n 33 1 (ab_dd tk_m_readLaw 17 rfl) rfl rfl rfl ?_
    refine xn_if_ne 36 44 (ab_dd tk_m_readLaw 18 rfl) rfl (by decide) (by omega) (fun h33 => ?_) (fun h33 => ?_)
    · refine x_aload_n 45 0 (ab_dd tk_m_readLaw 23 rfl) rfl rfl rfl ?_
      refine x_iconst 46 0 (ab_dd tk_m_readLaw 24 rfl) rfl (by decide) (x_topn 0 rfl ?_)
      refine t_callV 49 M_m_readTruth 12 1 [_] (ab_dd tk_m_readLaw 25 rfl) rfl (by decide) K_m_readTruth V_m_readTruth.1 V_m_readTruth.2 L_m_184 rfl (Nat.le_of_ble_eq_true rfl) (by decide) (Nat.lt_of_lt_of_le (by decide) uD5.1.1) (uD5.1.2.1 0 (by decide)) rfl (D_readTruth (rD.p5 uD5) _) (fun v1 w1 h1 => ?_)
      obtain ⟨rfl, rfl⟩ := h1
      exact dd _ _ _ (rF5.p5 (rF5.of ((rF.rf.tr uF1).tr uF5))) (rD.p5 uD5) (by unfold lwr wX; rw [if_neg hk2])
    · refine x_aload_n 37 0 (ab_dd tk_m_readLaw 19 rfl) rfl rfl rfl ?_
      refine x_iconst 38 0 (ab_dd tk_m_readLaw 20 rfl) rfl (by decide) (x_topn 0 rfl ?_)
      refine t_callV 41 M_m_readSum 9 1 [_] (ab_dd tk_m_readLaw 21 rfl) rfl (by decide) K_m_readSum V_m_readSum.1 V_m_readSum.2 L_m_175 rfl (Nat.le_of_ble_eq_true rfl) (by decide) (Nat.lt_of_lt_of_le (by decide) uD5.1.1) (uD5.1.2.1 0 (by decide)) rfl (D_readSum (rD.p5 uD5) _) (fun v1 w1 h1 => ?_)
      obtain ⟨rfl, rfl⟩ := h1
      refine x_goto 49 (ab_dd tk_m_readLaw 22 rfl) (by decide) ?_
      exact dd _ _ _ (rF5.p5 (rF5.of ((rF.rf.tr uF1).tr uF5))) (rD.p5 uD5) (by unfold lwr wX; rw [if_neg hk2])
