/-! ===== feed ===== -/
theorem nar_all : (List.range 256).all (fun n => decide (vp_nar .byte (sB n) = sB n)) = true := by decide +kernel
theorem nar_sB {n : Nat} (h : n < 256) : vp_nar .byte (sB n) = sB n := by
  have h0 := nar_all
  rw [List.all_eq_true] at h0
  exact of_decide_eq_true (h0 n (List.mem_range.mpr h))
theorem bO_lt (x : Int32) (j : Nat) : bO x j < 256 := lB8_lt _
def tb_s_putInt : List (Nat × Instr × Nat) := [(0, .bipush 24, 2), (2, .istore_n 2, 1), (3, .iload_n 2, 1), (4, .ifCond .lt 42, 3), (7, .aload_n 0, 1), (8, .getfield 13, 3), (11, .sipush 900, 3), (14, .if_icmp .ge 32, 3), (17, .aload_n 0, 1), (18, .getfield 9, 3), (21, .aload_n 0, 1), (22, .getfield 13, 3), (25, .iload_n 1, 1), (26, .iload_n 2, 1), (27, .ishr, 1), (28, .i2b, 1), (29, .bastore, 1), (30, .aload_n 0, 1), (31, .dup, 1), (32, .getfield 13, 3), (35, .iconst 1, 1), (36, .iadd, 1), (37, .putfield 13, 3), (40, .iinc 2 (-8), 3), (43, .goto (-40), 3), (46, .return_, 1)]
theorem tk_s_putInt : ∀ q ∈ tb_s_putInt, decode M_s_putInt.2.1 q.1 = .ok q.2 := by decide +kernel
theorem c_s_putInt {G : ab_G} {S : ab_S} (hx : xSh S) {t : Nat} (h51 : sI S 50 1 = nI t) (ht9 : t + 4 ≤ 900) (x : Int32) : ab_C G 0 M_s_putInt [.ref 50, .int x] (sw S) (fun z w' => z = none ∧ ∃ S', w' = sw S' ∧ sEq [50, 51] S S' ∧ sI S' 50 1 = nI (t + 4) ∧ (∀ j, j ≠ 1 → sI S' 50 j = sI S 50 j) ∧ ∀ i, sI S' 51 i = if t ≤ i ∧ i < t + 4 then sB (bO x (i - t)) else sI S 51 i) := by
  refine x_enter [some (.ref 50), some (.int x), none] (by decide) (Nat.le_of_ble_eq_true rfl) rfl (fun v w' h => by obtain ⟨rfl, -⟩ := h; trivial) ?_
  have loop : ∀ (m k : Nat), k + m = 3 → ∀ S1 : ab_S, sEq [50, 51] S S1 → sI S1 50 1 = nI (t + k) → (∀ j, j ≠ 1 → sI S1 50 j = sI S 50 j) → (∀ i, sI S1 51 i = if t ≤ i ∧ i < t + k then sB (bO x (i - t)) else sI S 51 i) → ab_Ex G 0 M_s_putInt 3 [some (.ref 50), some (.int x), some (.int (nI (24 - 8 * k)))] [] (sw S1) (fun z w' => z = none ∧ ∃ S', w' = sw S' ∧ sEq [50, 51] S S' ∧ sI S' 50 1 = nI (t + 4) ∧ (∀ j, j ≠ 1 → sI S' 50 j = sI S 50 j) ∧ ∀ i, sI S' 51 i = if t ≤ i ∧ i < t + 4 then sB (bO x (i - t)) else sI S 51 i) := by
    intro m
    induction m with
    | zero =>
      intro k hk S1 hE1 h1 h2 h3
      have hx1 : xSh S1 := hx.eq hE1
      have hk3 : k = 3 := by omega
      refine x_iload_n 4 2 (ab_dd tk_s_putInt 2 rfl) rfl rfl rfl ?_
      refine xn_if_lt 7 46 (ab_dd tk_s_putInt 3 rfl) rfl (by decide) (by omega) ?_
      refine x_aload_n 8 0 (ab_dd tk_s_putInt 4 rfl) rfl rfl rfl ?_
      refine t_getI 11 (ab_dd tk_s_putInt 5 rfl) rfl F_s_13 (by decide) (Nat.lt_of_lt_of_le (by decide) hx1.1) (hx1.2.1 0 (by decide)) rfl (x_topn (t + k) h1 ?_)
      refine x_sipush 14 900 (ab_dd tk_s_putInt 6 rfl) rfl (by decide) (x_topn 900 rfl ?_)
      refine x_icmp_ge_f 17 (ab_dd tk_s_putInt 7 rfl) rfl 46 (by decide) (fun z => absurd ((nI_leI (a := 900) (b := (t + k)) (by omega) (by omega)).mp z) (show ¬ (900 ≤ (t + k)) by omega)) ?_
      refine x_aload_n 18 0 (ab_dd tk_s_putInt 8 rfl) rfl rfl rfl ?_
      refine t_getP 21 51 (ab_dd tk_s_putInt 9 rfl) rfl F_s_9 (by decide) (Nat.lt_of_lt_of_le (by decide) hx1.1) (hx1.2.1 0 (by decide)) rfl (hx1.2.2 (50, 0, 51) (by decide)) ?_
      refine x_aload_n 22 0 (ab_dd tk_s_putInt 10 rfl) rfl rfl rfl ?_
      refine t_getI 25 (ab_dd tk_s_putInt 11 rfl) rfl F_s_13 (by decide) (Nat.lt_of_lt_of_le (by decide) hx1.1) (hx1.2.1 0 (by decide)) rfl (x_topn (t + k) h1 ?_)
      refine x_iload_n 26 1 (ab_dd tk_s_putInt 12 rfl) rfl rfl rfl ?_
      refine x_iload_n 27 2 (ab_dd tk_s_putInt 13 rfl) rfl rfl rfl ?_
      refine x_ishr 28 (ab_dd tk_s_putInt 14 rfl) rfl ?_
      refine x_i2b 29 (ab_dd tk_s_putInt 15 rfl) rfl (x_topx (sB (bO x k)) (show _ = _ from sB_of _) ?_)
      refine t_bast 30 (t + k) (ab_dd tk_s_putInt 16 rfl) rfl (by decide) (Nat.lt_of_lt_of_le (by decide) hx1.1) (hx1.2.1 1 (by decide)) rfl (by omega) (by decide) ?_
      refine x_aload_n 31 0 (ab_dd tk_s_putInt 17 rfl) rfl rfl rfl ?_
      refine x_dup 32 (ab_dd tk_s_putInt 18 rfl) rfl rfl ?_
      refine t_getI 35 (ab_dd tk_s_putInt 19 rfl) rfl F_s_13 (by decide) (Nat.lt_of_lt_of_le (by decide) hx1.1) (hx1.2.1 0 (by decide)) rfl (x_topn (t + k) ((gI_a (by decide)).trans h1) ?_)
      refine x_iconst 36 1 (ab_dd tk_s_putInt 20 rfl) rfl (by decide) (x_topn 1 rfl ?_)
      refine x_iadd 37 (ab_dd tk_s_putInt 21 rfl) rfl (x_topn ((t + k) + 1) (nI_add _ _) ?_)
      refine t_putI 40 (ab_dd tk_s_putInt 22 rfl) rfl F_s_13 (by decide) (Nat.lt_of_lt_of_le (by decide) hx1.1) (hx1.2.1 0 (by decide)) rfl rfl rfl ?_
      have nE : sEq [50, 51] S (pI (pI S1 51 (t + k) (vp_nar .byte (sB (bO x k)))) 50 1 (nI (t + k + 1))) := (hE1.pI (by decide)).pI (by decide)
      have n1 : sI (pI (pI S1 51 (t + k) (vp_nar .byte (sB (bO x k)))) 50 1 (nI (t + k + 1))) 50 1 = nI (t + (k + 1)) := gI_s
      have n2 : ∀ j, j ≠ 1 → sI (pI (pI S1 51 (t + k) (vp_nar .byte (sB (bO x k)))) 50 1 (nI (t + k + 1))) 50 j = sI S 50 j := fun j hj => (gI_k hj).trans ((gI_a (by decide)).trans (h2 j hj))
      have n3 : ∀ i, sI (pI (pI S1 51 (t + k) (vp_nar .byte (sB (bO x k)))) 50 1 (nI (t + k + 1))) 51 i = if t ≤ i ∧ i < t + (k + 1) then sB (bO x (i - t)) else sI S 51 i := fun i => by
        refine (gI_a (show (51 : Nat) ≠ 50 by decide)).trans ?_
        by_cases hi : i = t + k
        · rw [hi]
          refine gI_s.trans ?_
          rw [if_pos ⟨by omega, by omega⟩, show t + k - t = k by omega, nar_sB (bO_lt _ _)]
        · refine (gI_k hi).trans ?_
          rw [h3 i]
          by_cases h1 : t ≤ i ∧ i < t + k
          · rw [if_pos h1, if_pos ⟨h1.1, by omega⟩]
          · rw [if_neg h1, if_neg (fun z => h1 ⟨z.1, by omega⟩)]
      refine x_iincN 43 2 (-8) (fun y => [some (.ref 50), some (.int x), some (.int y)]) (ab_dd tk_s_putInt 23 rfl) rfl (by decide) rfl (by decide) (fun _ => rfl) (fun v1 ev1 => ?_)
      refine x_goto 3 (ab_dd tk_s_putInt 24 rfl) (by decide) ?_
      refine x_iload_n 4 2 (ab_dd tk_s_putInt 2 rfl) rfl rfl rfl ?_
      refine x_if_lt_t 46 (ab_dd tk_s_putInt 3 rfl) (by decide) (by rw [ev1, hk3]; decide) ?_
      exact x_vret (ab_dd tk_s_putInt 25 rfl) ⟨rfl, _, rfl, nE, n1.trans (by rw [hk3]), n2, fun i => (n3 i).trans (by rw [hk3])⟩
    | succ m ih =>
      intro k hk S1 hE1 h1 h2 h3
      have hx1 : xSh S1 := hx.eq hE1
      refine x_iload_n 4 2 (ab_dd tk_s_putInt 2 rfl) rfl rfl rfl ?_
      refine xn_if_lt 7 46 (ab_dd tk_s_putInt 3 rfl) rfl (by decide) (by omega) ?_
      refine x_aload_n 8 0 (ab_dd tk_s_putInt 4 rfl) rfl rfl rfl ?_
      refine t_getI 11 (ab_dd tk_s_putInt 5 rfl) rfl F_s_13 (by decide) (Nat.lt_of_lt_of_le (by decide) hx1.1) (hx1.2.1 0 (by decide)) rfl (x_topn (t + k) h1 ?_)
      refine x_sipush 14 900 (ab_dd tk_s_putInt 6 rfl) rfl (by decide) (x_topn 900 rfl ?_)
      refine x_icmp_ge_f 17 (ab_dd tk_s_putInt 7 rfl) rfl 46 (by decide) (fun z => absurd ((nI_leI (a := 900) (b := (t + k)) (by omega) (by omega)).mp z) (show ¬ (900 ≤ (t + k)) by omega)) ?_
      refine x_aload_n 18 0 (ab_dd tk_s_putInt 8 rfl) rfl rfl rfl ?_
      refine t_getP 21 51 (ab_dd tk_s_putInt 9 rfl) rfl F_s_9 (by decide) (Nat.lt_of_lt_of_le (by decide) hx1.1) (hx1.2.1 0 (by decide)) rfl (hx1.2.2 (50, 0, 51) (by decide)) ?_
      refine x_aload_n 22 0 (ab_dd tk_s_putInt 10 rfl) rfl rfl rfl ?_
      refine t_getI 25 (ab_dd tk_s_putInt 11 rfl) rfl F_s_13 (by decide) (Nat.lt_of_lt_of_le (by decide) hx1.1) (hx1.2.1 0 (by decide)) rfl (x_topn (t + k) h1 ?_)
      refine x_iload_n 26 1 (ab_dd tk_s_putInt 12 rfl) rfl rfl rfl ?_
      refine x_iload_n 27 2 (ab_dd tk_s_putInt 13 rfl) rfl rfl rfl ?_
      refine x_ishr 28 (ab_dd tk_s_putInt 14 rfl) rfl ?_
      refine x_i2b 29 (ab_dd tk_s_putInt 15 rfl) rfl (x_topx (sB (bO x k)) (show _ = _ from sB_of _) ?_)
      refine t_bast 30 (t + k) (ab_dd tk_s_putInt 16 rfl) rfl (by decide) (Nat.lt_of_lt_of_le (by decide) hx1.1) (hx1.2.1 1 (by decide)) rfl (by omega) (by decide) ?_
      refine x_aload_n 31 0 (ab_dd tk_s_putInt 17 rfl) rfl rfl rfl ?_
      refine x_dup 32 (ab_dd tk_s_putInt 18 rfl) rfl rfl ?_
      refine t_getI 35 (ab_dd tk_s_putInt 19 rfl) rfl F_s_13 (by decide) (Nat.lt_of_lt_of_le (by decide) hx1.1) (hx1.2.1 0 (by decide)) rfl (x_topn (t + k) ((gI_a (by decide)).trans h1) ?_)
      refine x_iconst 36 1 (ab_dd tk_s_putInt 20 rfl) rfl (by decide) (x_topn 1 rfl ?_)
      refine x_iadd 37 (ab_dd tk_s_putInt 21 rfl) rfl (x_topn ((t + k) + 1) (nI_add _ _) ?_)
      refine t_putI 40 (ab_dd tk_s_putInt 22 rfl) rfl F_s_13 (by decide) (Nat.lt_of_lt_of_le (by decide) hx1.1) (hx1.2.1 0 (by decide)) rfl rfl rfl ?_
      have nE : sEq [50, 51] S (pI (pI S1 51 (t + k) (vp_nar .byte (sB (bO x k)))) 50 1 (nI (t + k + 1))) := (hE1.pI (by decide)).pI (by decide)
      have n1 : sI (pI (pI S1 51 (t + k) (vp_nar .byte (sB (bO x k)))) 50 1 (nI (t + k + 1))) 50 1 = nI (t + (k + 1)) := gI_s
      have n2 : ∀ j, j ≠ 1 → sI (pI (pI S1 51 (t + k) (vp_nar .byte (sB (bO x k)))) 50 1 (nI (t + k + 1))) 50 j = sI S 50 j := fun j hj => (gI_k hj).trans ((gI_a (by decide)).trans (h2 j hj))
      have n3 : ∀ i, sI (pI (pI S1 51 (t + k) (vp_nar .byte (sB (bO x k)))) 50 1 (nI (t + k + 1))) 51 i = if t ≤ i ∧ i < t + (k + 1) then sB (bO x (i - t)) else sI S 51 i := fun i => by
        refine (gI_a (show (51 : Nat) ≠ 50 by decide)).trans ?_
        by_cases hi : i = t + k
        · rw [hi]
          refine gI_s.trans ?_
          rw [if_pos ⟨by omega, by omega⟩, show t + k - t = k by omega, nar_sB (bO_lt _ _)]
        · refine (gI_k hi).trans ?_
          rw [h3 i]
          by_cases h1 : t ≤ i ∧ i < t + k
          · rw [if_pos h1, if_pos ⟨h1.1, by omega⟩]
          · rw [if_neg h1, if_neg (fun z => h1 ⟨z.1, by omega⟩)]
      refine xn_iinc 43 2 (fun y => [some (.ref 50), some (.int x), some (.int y)]) (24 - 8 * (k + 1)) (ab_dd tk_s_putInt 23 rfl) rfl (by decide) rfl (fun _ => rfl) (by rcases (by omega : k = 0 ∨ k = 1 ∨ k = 2) with z | z | z <;> rw [z] <;> decide) ?_
      refine x_goto 3 (ab_dd tk_s_putInt 24 rfl) (by decide) ?_
      exact ih (k + 1) (by omega) _ nE n1 n2 n3
  refine x_bipush 2 24 (ab_dd tk_s_putInt 0 rfl) rfl (by decide) (x_topn 24 rfl ?_)
  refine x_istore_n 3 [some (.ref 50), some (.int x), some (.int (nI 24))] 2 (ab_dd tk_s_putInt 1 rfl) rfl rfl (by decide) rfl ?_
  exact loop 3 0 (by omega) S sEq.rf h51 (fun _ _ => rfl) (fun i => by rw [if_neg (by omega)])
def tb_s_feed : List (Nat × Instr × Nat) := [(0, .aload_n 0, 1), (1, .getfield 13, 3), (4, .bipush 20, 2), (6, .iadd, 1), (7, .sipush 900, 3), (10, .if_icmp .le 6, 3), (13, .bipush (-5), 2), (15, .ireturn, 1), (16, .aload_n 0, 1), (17, .iload_n 1, 1), (18, .invokevirtual 104, 3), (21, .aload_n 0, 1), (22, .iload_n 2, 1), (23, .invokevirtual 104, 3), (26, .aload_n 0, 1), (27, .iload_n 3, 1), (28, .invokevirtual 104, 3), (31, .aload_n 0, 1), (32, .iload 4, 2), (34, .invokevirtual 104, 3), (37, .aload_n 0, 1), (38, .iload 5, 2), (40, .invokevirtual 104, 3), (43, .aload_n 0, 1), (44, .getfield 13, 3), (47, .ireturn, 1)]
theorem tk_s_feed : ∀ q ∈ tb_s_feed, decode M_s_feed.2.1 q.1 = .ok q.2 := by decide +kernel
theorem p_s_feed {G : ab_G} {S : ab_S} {im : Nat → Prop} {a b : Nat → Int32} {c bh nb st st2 u : Nat} (h : kBd S im a c b bh nb st st2 u) (ht : sdE S 55 (rowT a)) {t : Nat} (ht9 : t ≤ 900) (h51 : sI S 50 1 = nI t) {tp : Nat → Nat} (hT : bT S tp) (x1 x2 x3 x4 x5 : Int32) : ab_C G 7 M_s_feed [.ref 50, .int x1, .int x2, .int x3, .int x4, .int x5] (sw S) (fun v w' => (880 < t ∧ v = some (.int (-5)) ∧ w' = sw S) ∨ (t ≤ 880 ∧ v = some (.int (nI (t + 20))) ∧ ∃ S', w' = sw S' ∧ sEq [50, 51] S S' ∧ bT S' (fdT tp t x1 x2 x3 x4 x5) ∧ sI S' 50 1 = nI (t + 20) ∧ (∀ j, j ≠ 1 → sI S' 50 j = sI S 50 j) ∧ kBd S' im a c b bh nb st st2 u ∧ sdE S' 55 (rowT a))) := by
  refine x_enter [some (.ref 50), some (.int x1), some (.int x2), some (.int x3), some (.int x4), some (.int x5)] (by decide) (Nat.le_of_ble_eq_true rfl) rfl (fun v w' h => by rcases h with ⟨-, rfl, -⟩ | ⟨-, rfl, -⟩ <;> rfl) ?_
  have hbh := h.bh.1
  have h0 := h
  obtain ⟨hx, hse, kc, ⟨him, hil, h145⟩, ha, hc, ⟨hb1, hb2, hcl, hnb⟩, hcl9, -, hid, -, hu1, hu2⟩ := h0
  have h40 : sI S 55 3 = a 40 := ht.2.2.2.1.trans ha.1.m40.1.symm
  refine x_aload_n 1 0 (ab_dd tk_s_feed 0 rfl) rfl rfl rfl ?_
  refine t_getI 4 (ab_dd tk_s_feed 1 rfl) rfl F_s_13 (by decide) (Nat.lt_of_lt_of_le (by decide) hx.1) (hx.2.1 0 (by decide)) rfl (x_topn t h51 ?_)
  refine x_bipush 6 20 (ab_dd tk_s_feed 2 rfl) rfl (by decide) (x_topn 20 rfl ?_)
  refine x_iadd 7 (ab_dd tk_s_feed 3 rfl) rfl (x_topn (t + 20) (nI_add _ _) ?_)
  refine x_sipush 10 900 (ab_dd tk_s_feed 4 rfl) rfl (by decide) (x_topn 900 rfl ?_)
  refine xn_icmp_le 13 16 (ab_dd tk_s_feed 5 rfl) rfl (by decide) (by omega) (by omega) (fun h10 => ?_) (fun h10 => ?_)
  · refine x_aload_n 17 0 (ab_dd tk_s_feed 8 rfl) rfl rfl rfl ?_
    refine x_iload_n 18 1 (ab_dd tk_s_feed 9 rfl) rfl rfl rfl ?_
    refine t_callV 21 M_s_putInt 0 1 [_] (ab_dd tk_s_feed 10 rfl) rfl (by first | decide | omega) K_s_putInt V_s_putInt.1 V_s_putInt.2 L_s_104 rfl (Nat.le_of_ble_eq_true rfl) (by decide) (Nat.lt_of_lt_of_le (by decide) hx.1) (hx.2.1 0 (by decide)) rfl (c_s_putInt hx (t := t) h51 (by omega) x1) (fun v1 w1 h1 => ?_)
    obtain ⟨rfl, S1, rfl, hE1, g1, k1, j1⟩ := h1
    have hx1 : xSh S1 := hx.eq hE1
    refine x_aload_n 22 0 (ab_dd tk_s_feed 11 rfl) rfl rfl rfl ?_
    refine x_iload_n 23 2 (ab_dd tk_s_feed 12 rfl) rfl rfl rfl ?_
    refine t_callV 26 M_s_putInt 0 1 [_] (ab_dd tk_s_feed 13 rfl) rfl (by first | decide | omega) K_s_putInt V_s_putInt.1 V_s_putInt.2 L_s_104 rfl (Nat.le_of_ble_eq_true rfl) (by decide) (Nat.lt_of_lt_of_le (by decide) hx1.1) (hx1.2.1 0 (by decide)) rfl (c_s_putInt hx1 (t := (t + 4)) g1 (by omega) x2) (fun v1 w1 h1 => ?_)
    obtain ⟨rfl, S2, rfl, hE2, g2, k2, j2⟩ := h1
    have hx2 : xSh S2 := hx1.eq hE2
    refine x_aload_n 27 0 (ab_dd tk_s_feed 14 rfl) rfl rfl rfl ?_
    refine x_iload_n 28 3 (ab_dd tk_s_feed 15 rfl) rfl rfl rfl ?_
    refine t_callV 31 M_s_putInt 0 1 [_] (ab_dd tk_s_feed 16 rfl) rfl (by first | decide | omega) K_s_putInt V_s_putInt.1 V_s_putInt.2 L_s_104 rfl (Nat.le_of_ble_eq_true rfl) (by decide) (Nat.lt_of_lt_of_le (by decide) hx2.1) (hx2.2.1 0 (by decide)) rfl (c_s_putInt hx2 (t := (t + 8)) g2 (by omega) x3) (fun v1 w1 h1 => ?_)
    obtain ⟨rfl, S3, rfl, hE3, g3, k3, j3⟩ := h1
    have hx3 : xSh S3 := hx2.eq hE3
    refine x_aload_n 32 0 (ab_dd tk_s_feed 17 rfl) rfl rfl rfl ?_
    refine x_iload 34 4 (ab_dd tk_s_feed 18 rfl) rfl rfl ?_
    refine t_callV 37 M_s_putInt 0 1 [_] (ab_dd tk_s_feed 19 rfl) rfl (by first | decide | omega) K_s_putInt V_s_putInt.1 V_s_putInt.2 L_s_104 rfl (Nat.le_of_ble_eq_true rfl) (by decide) (Nat.lt_of_lt_of_le (by decide) hx3.1) (hx3.2.1 0 (by decide)) rfl (c_s_putInt hx3 (t := (t + 12)) g3 (by omega) x4) (fun v1 w1 h1 => ?_)
    obtain ⟨rfl, S4, rfl, hE4, g4, k4, j4⟩ := h1
    have hx4 : xSh S4 := hx3.eq hE4
    refine x_aload_n 38 0 (ab_dd tk_s_feed 20 rfl) rfl rfl rfl ?_
    refine x_iload 40 5 (ab_dd tk_s_feed 21 rfl) rfl rfl ?_
    refine t_callV 43 M_s_putInt 0 1 [_] (ab_dd tk_s_feed 22 rfl) rfl (by first | decide | omega) K_s_putInt V_s_putInt.1 V_s_putInt.2 L_s_104 rfl (Nat.le_of_ble_eq_true rfl) (by decide) (Nat.lt_of_lt_of_le (by decide) hx4.1) (hx4.2.1 0 (by decide)) rfl (c_s_putInt hx4 (t := (t + 16)) g4 (by omega) x5) (fun v1 w1 h1 => ?_)
    obtain ⟨rfl, S5, rfl, hE5, g5, k5, j5⟩ := h1
    have hx5 : xSh S5 := hx4.eq hE5
    refine x_aload_n 44 0 (ab_dd tk_s_feed 23 rfl) rfl rfl rfl ?_
    refine t_getI 47 (ab_dd tk_s_feed 24 rfl) rfl F_s_13 (by decide) (Nat.lt_of_lt_of_le (by decide) hx5.1) (hx5.2.1 0 (by decide)) rfl (x_topn (t + 20) g5 ?_)
    have hE : sEq [50, 51] S S5 := hE1.tr (hE2.tr (hE3.tr (hE4.tr hE5)))
    have hB5 := h.se5 hE (fun y hy => by simp only [List.mem_cons, List.not_mem_nil, or_false] at hy; omega)
    have hbt : bT S5 (fdT tp t x1 x2 x3 x4 x5) := fun i hi => by
      obtain ⟨z1, z2⟩ := hT i hi
      unfold fdT
      by_cases hin : t ≤ i ∧ i < t + 20
      · rw [if_pos hin]
        have hlt : fdN x1 x2 x3 x4 x5 (i - t) < 256 := bO_lt _ _
        refine ⟨?_, hlt⟩
        unfold fdN
        rcases (by omega : i < t + 4 ∨ (t + 4 ≤ i ∧ i < t + 8) ∨ (t + 8 ≤ i ∧ i < t + 12) ∨ (t + 12 ≤ i ∧ i < t + 16) ∨ t + 16 ≤ i) with y | y | y | y | y
        · rw [j5 i, if_neg (by omega), j4 i, if_neg (by omega), j3 i, if_neg (by omega), j2 i, if_neg (by omega), j1 i, if_pos (by omega), if_pos (by omega), show (i - t) % 4 = i - t by omega]
        · rw [j5 i, if_neg (by omega), j4 i, if_neg (by omega), j3 i, if_neg (by omega), j2 i, if_pos (by omega), if_neg (by omega), if_pos (by omega), show (i - t) % 4 = i - (t + 4) by omega]
        · rw [j5 i, if_neg (by omega), j4 i, if_neg (by omega), j3 i, if_pos (by omega), if_neg (by omega), if_neg (by omega), if_pos (by omega), show (i - t) % 4 = i - (t + 8) by omega]
        · rw [j5 i, if_neg (by omega), j4 i, if_pos (by omega), if_neg (by omega), if_neg (by omega), if_neg (by omega), if_pos (by omega), show (i - t) % 4 = i - (t + 12) by omega]
        · rw [j5 i, if_pos (by omega), if_neg (by omega), if_neg (by omega), if_neg (by omega), if_neg (by omega), show (i - t) % 4 = i - (t + 16) by omega]
      · rw [if_neg hin, j5 i, if_neg (by omega), j4 i, if_neg (by omega), j3 i, if_neg (by omega), j2 i, if_neg (by omega), j1 i, if_neg (by omega)]
        exact ⟨z1, z2⟩
    exact x_iret (ab_dd tk_s_feed 25 rfl) (Or.inr ⟨by omega, rfl, S5, rfl, hE, hbt, g5, fun j hj => (k5 j hj).trans ((k4 j hj).trans ((k3 j hj).trans ((k2 j hj).trans (k1 j hj)))), hB5, ht.eq hE (by simp only [List.mem_cons, List.not_mem_nil, or_false, not_or]; omega)⟩)
  · refine x_bipush 15 (-5) (ab_dd tk_s_feed 6 rfl) rfl (by decide) ?_
    exact x_iret (ab_dd tk_s_feed 7 rfl) (Or.inl ⟨by omega, rfl, rfl⟩)
