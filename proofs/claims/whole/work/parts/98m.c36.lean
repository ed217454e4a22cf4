/-! ===== the class's reader: a law's parts ===== -/
theorem LA_sg {G : ab_G} {S : ab_S} {tp : Nat → Nat} {n p : Nat} (hL : qLv S tp n p) (k c : Nat) (hk : k < 12) (hc : kB 0 k = c) : ab_C G 0 M_re_isSign [.ref 72, .int (nI c)] (sw S) (fun v w' => v = some (.int (if tK tp n p = 30 + k then 1 else 0)) ∧ w' = sw S) := by
  rw [← hc]; exact LA_isSign hL k hk
theorem LA_nsg {G : ab_G} {S : ab_S} {tp : Nat → Nat} {n p : Nat} (hL : qLv S tp n p) (k c : Nat) (hk : k < 12) (hc : kB 0 k = c) : ab_C G 6 M_re_needSign [.ref 72, .int (nI c)] (sw S) (fun v w' => v = none ∧ ∃ S', w' = sw S' ∧ qG S S' ∧ ((tK tp n p = 30 + k ∧ qLv S' tp n (tE tp n p)) ∨ (tK tp n p ≠ 30 + k ∧ qD S' n (pE tp n p 2)))) := by
  rw [← hc]; exact LA_needSign hL k hk
def appL (N : Nat) (F : Nat → Int32) (c : List Nat) : Nat → Int32 := fun j => if N ≤ j ∧ j < N + c.length then cvt (nI (c.getD (j - N) 0)) else F j
theorem appL_nil (N : Nat) (F : Nat → Int32) : appL N F [] = F := by
  funext j
  unfold appL
  exact if_neg (by simp only [List.length_nil]; omega)
theorem appL_app (N : Nat) (F : Nat → Int32) (c d : List Nat) : appL (N + c.length) (appL N F c) d = appL N F (c ++ d) := by
  funext j
  unfold appL
  rw [List.length_append]
  by_cases h1 : N + c.length ≤ j ∧ j < N + c.length + d.length
  · rw [if_pos h1, if_pos (by omega)]
    congr 2
    rw [List.getD_eq_getElem?_getD, List.getD_eq_getElem?_getD, List.getElem?_append_right (by omega), show j - N - c.length = j - (N + c.length) by omega]
  · rw [if_neg h1]
    by_cases h2 : N ≤ j ∧ j < N + c.length
    · rw [if_pos h2, if_pos (by omega)]
      congr 2
      rw [List.getD_eq_getElem?_getD, List.getD_eq_getElem?_getD, List.getElem?_append_left (by omega)]
    · rw [if_neg h2, if_neg (by omega)]
/-- the law is no longer than B -/
def bL (S : ab_S) (B : Nat) : Prop := ∃ N, N ≤ B ∧ N ≤ 900 ∧ sI S 72 12 = nI N
theorem bL.g {S S' : ab_S} {B : Nat} (h : bL S B) (g : sI S' 72 12 = sI S 72 12) : bL S' B := by
  obtain ⟨N, a, b, c⟩ := h
  exact ⟨N, a, b, g.trans c⟩
theorem bL.up {S : ab_S} {B B' : Nat} (h : bL S B) (hB : B ≤ B') : bL S B' := by
  obtain ⟨N, a, b, c⟩ := h
  exact ⟨N, by omega, b, c⟩
theorem cvt_n {x : Nat} (h : x < 1000) : nI x = cvt (nI x) := ((cvt_lo (by omega)).2.1 h).1.symm
def tb_re_put : List (Nat × Instr × Nat) := [(0, .aload_n 0, 1), (1, .getfield 55, 3), (4, .aload_n 0, 1), (5, .getfield 51, 3), (8, .arraylength, 1), (9, .if_icmp .ge 23, 3), (12, .aload_n 0, 1), (13, .getfield 51, 3), (16, .aload_n 0, 1), (17, .getfield 55, 3), (20, .iload_n 1, 1), (21, .iastore, 1), (22, .aload_n 0, 1), (23, .dup, 1), (24, .getfield 55, 3), (27, .iconst 1, 1), (28, .iadd, 1), (29, .putfield 55, 3), (32, .return_, 1)]
theorem tk_re_put : ∀ q ∈ tb_re_put, decode M_re_put.2.1 q.1 = .ok q.2 := by decide +kernel
theorem LA_put {G : ab_G} {S : ab_S} {tp : Nat → Nat} {n p : Nat} (hL : qLv S tp n p) {N : Nat} (hN : sI S 72 12 = nI N) (hN9 : N < 900) (x : Nat) (y : Int32) (hy : y = cvt (nI x)) : ab_C G 0 M_re_put [.ref 72, .int y] (sw S) (fun v w' => v = none ∧ ∃ S', w' = sw S' ∧ qF S S' ∧ qLv S' tp n p ∧ sI S' 77 = appL N (sI S 77) [x] ∧ sI S' 72 12 = nI (N + 1) ∧ sI S' 72 10 = sI S 72 10) := by
  refine x_enter [some (.ref 72), some (.int y)] (by decide) (Nat.le_of_ble_eq_true rfl) rfl (fun v w' h => by obtain ⟨rfl, -⟩ := h; trivial) ?_
  have hLb := hL
  obtain ⟨-, -, -, hn9, -, -, hpn, -, -, N0, hN0, hN1⟩ := hLb
  have hSb := tS_b tp hpn
  have hEb := tE_b tp hpn
  have hgap := tK_gap tp n p
  have hKlt := tK_lt tp n p
  obtain ⟨k0, k1, k2, k3, k4⟩ := ckd_i (tK tp n p) hgap
  have kl := ckd_lt (tK tp n p)
  refine x_aload_n 1 0 (ab_dd tk_re_put 0 rfl) rfl rfl rfl ?_
  refine t_getI 4 (ab_dd tk_re_put 1 rfl) rfl F_re_55 (by decide) (Nat.lt_of_lt_of_le (by decide) hL.1.1) (hL.1.2.1 22 (by decide)) rfl (x_topn N hN ?_)
  refine x_aload_n 5 0 (ab_dd tk_re_put 2 rfl) rfl rfl rfl ?_
  refine t_getP 8 77 (ab_dd tk_re_put 3 rfl) rfl F_re_51 (by decide) (Nat.lt_of_lt_of_le (by decide) hL.1.1) (hL.1.2.1 22 (by decide)) rfl (hL.1.2.2 (72, 11, 77) (by decide)) ?_
  refine t_alen 9 0 (ab_dd tk_re_put 4 rfl) rfl (by decide) (Nat.lt_of_lt_of_le (by decide) hL.1.1) rfl (hL.1.2.1 27 (by decide)) ?_
  refine x_icmp_ge_f 12 (ab_dd tk_re_put 5 rfl) rfl 32 (by decide) (fun z => absurd ((nI_leI (a := 900) (b := N) (by omega) (by omega)).mp z) (show ¬ (900 ≤ N) by omega)) ?_
  refine x_aload_n 13 0 (ab_dd tk_re_put 6 rfl) rfl rfl rfl ?_
  refine t_getP 16 77 (ab_dd tk_re_put 7 rfl) rfl F_re_51 (by decide) (Nat.lt_of_lt_of_le (by decide) hL.1.1) (hL.1.2.1 22 (by decide)) rfl (hL.1.2.2 (72, 11, 77) (by decide)) ?_
  refine x_aload_n 17 0 (ab_dd tk_re_put 8 rfl) rfl rfl rfl ?_
  refine t_getI 20 (ab_dd tk_re_put 9 rfl) rfl F_re_55 (by decide) (Nat.lt_of_lt_of_le (by decide) hL.1.1) (hL.1.2.1 22 (by decide)) rfl (x_topn N hN ?_)
  refine x_iload_n 21 1 (ab_dd tk_re_put 10 rfl) rfl rfl rfl ?_
  refine t_iast 22 N (ab_dd tk_re_put 11 rfl) rfl (by decide) (Nat.lt_of_lt_of_le (by decide) hL.1.1) (hL.1.2.1 27 (by decide)) rfl (by omega) (by decide) ?_
  refine x_aload_n 23 0 (ab_dd tk_re_put 12 rfl) rfl rfl rfl ?_
  refine x_dup 24 (ab_dd tk_re_put 13 rfl) rfl rfl ?_
  refine t_getI 27 (ab_dd tk_re_put 14 rfl) rfl F_re_55 (by decide) (Nat.lt_of_lt_of_le (by decide) hL.1.1) (hL.1.2.1 22 (by decide)) rfl (x_topn N ((gI_a (by decide)).trans hN) ?_)
  refine x_iconst 28 1 (ab_dd tk_re_put 15 rfl) rfl (by decide) (x_topn 1 rfl ?_)
  refine x_iadd 29 (ab_dd tk_re_put 16 rfl) rfl (x_topn (N + 1) (nI_add _ _) ?_)
  refine t_putI 32 (ab_dd tk_re_put 17 rfl) rfl F_re_55 (by decide) (Nat.lt_of_lt_of_le (by decide) hL.1.1) (hL.1.2.1 22 (by decide)) rfl rfl rfl ?_
  have hE : sEq [72, 77] S (pI (pI S 77 N y) 72 12 (nI (N + 1))) := (sEq.rf.pI (by simp)).pI (by simp)
  have ho : ∀ j, j ≠ 12 → sI (pI (pI S 77 N y) 72 12 (nI (N + 1))) 72 j = sI S 72 j := fun j hj => (gI_k hj).trans (congrFun (gI_o (by decide)) j)
  obtain ⟨a1, a2, a3, a4, a5, a6, a7, a8, a9, a10⟩ := hL
  exact x_vret (ab_dd tk_re_put 18 rfl) ⟨rfl, _, rfl, ⟨hE, fun j hj => ho j (by omega)⟩, ⟨a1.eq hE, a2, a3.eq hE (by decide), a4, a5, (ho 1 (by decide)).trans a6, a7, ⟨(ho 2 (by decide)).trans a8.1, (ho 3 (by decide)).trans a8.2.1, (ho 4 (by decide)).trans a8.2.2.1, fun z => (ho 5 (by decide)).trans (a8.2.2.2.1 z), fun z => (ho 5 (by decide)).trans (a8.2.2.2.2 z)⟩, ⟨(ho 6 (by decide)).trans a9.1, (ho 7 (by decide)).trans a9.2⟩, N + 1, by omega, gI_s⟩, by
    rw [gI_o (by decide)]
    funext j
    unfold appL
    by_cases z : j = N
    · rw [z, gI_s, if_pos ⟨Nat.le_refl _, by simp only [List.length_cons, List.length_nil]; omega⟩, Nat.sub_self, hy]; rfl
    · rw [gI_k z, if_neg (by simp only [List.length_cons, List.length_nil]; omega)], gI_s, ho 10 (by decide)⟩
theorem DA_put {G : ab_G} {S : ab_S} {n : Nat} {e : Nat × Nat} (hD : qD S n e) (y : Int32) : ab_C G 0 M_re_put [.ref 72, .int y] (sw S) (fun v w' => v = none ∧ ∃ S', w' = sw S' ∧ qF S S' ∧ qD S' n e ∧ ∀ B, bL S B → bL S' (B + 1)) := by
  refine x_enter [some (.ref 72), some (.int y)] (by decide) (Nat.le_of_ble_eq_true rfl) rfl (fun v w' h => by obtain ⟨rfl, -⟩ := h; trivial) ?_
  have hDb := hD
  obtain ⟨-, -, hn9, -, -, -, -, -, -, ⟨he0, he5⟩, N0, hN0, hN1⟩ := hDb
  refine x_aload_n 1 0 (ab_dd tk_re_put 0 rfl) rfl rfl rfl ?_
  refine t_getI 4 (ab_dd tk_re_put 1 rfl) rfl F_re_55 (by decide) (Nat.lt_of_lt_of_le (by decide) hD.1.1) (hD.1.2.1 22 (by decide)) rfl (x_topn N0 hN1 ?_)
  refine x_aload_n 5 0 (ab_dd tk_re_put 2 rfl) rfl rfl rfl ?_
  refine t_getP 8 77 (ab_dd tk_re_put 3 rfl) rfl F_re_51 (by decide) (Nat.lt_of_lt_of_le (by decide) hD.1.1) (hD.1.2.1 22 (by decide)) rfl (hD.1.2.2 (72, 11, 77) (by decide)) ?_
  refine t_alen 9 0 (ab_dd tk_re_put 4 rfl) rfl (by decide) (Nat.lt_of_lt_of_le (by decide) hD.1.1) rfl (hD.1.2.1 27 (by decide)) ?_
  refine xn_icmp_ge 12 32 (ab_dd tk_re_put 5 rfl) rfl (by decide) (by omega) (by omega) (fun h9 => ?_) (fun h9 => ?_)
  · exact x_vret (ab_dd tk_re_put 18 rfl) ⟨rfl, S, rfl, qF.rf, hD, fun B h => h.up (Nat.le_succ _)⟩
  · refine x_aload_n 13 0 (ab_dd tk_re_put 6 rfl) rfl rfl rfl ?_
    refine t_getP 16 77 (ab_dd tk_re_put 7 rfl) rfl F_re_51 (by decide) (Nat.lt_of_lt_of_le (by decide) hD.1.1) (hD.1.2.1 22 (by decide)) rfl (hD.1.2.2 (72, 11, 77) (by decide)) ?_
    refine x_aload_n 17 0 (ab_dd tk_re_put 8 rfl) rfl rfl rfl ?_
    refine t_getI 20 (ab_dd tk_re_put 9 rfl) rfl F_re_55 (by decide) (Nat.lt_of_lt_of_le (by decide) hD.1.1) (hD.1.2.1 22 (by decide)) rfl (x_topn N0 hN1 ?_)
    refine x_iload_n 21 1 (ab_dd tk_re_put 10 rfl) rfl rfl rfl ?_
    refine t_iast 22 N0 (ab_dd tk_re_put 11 rfl) rfl (by decide) (Nat.lt_of_lt_of_le (by decide) hD.1.1) (hD.1.2.1 27 (by decide)) rfl (by omega) (by decide) ?_
    refine x_aload_n 23 0 (ab_dd tk_re_put 12 rfl) rfl rfl rfl ?_
    refine x_dup 24 (ab_dd tk_re_put 13 rfl) rfl rfl ?_
    refine t_getI 27 (ab_dd tk_re_put 14 rfl) rfl F_re_55 (by decide) (Nat.lt_of_lt_of_le (by decide) hD.1.1) (hD.1.2.1 22 (by decide)) rfl (x_topn N0 ((gI_a (by decide)).trans hN1) ?_)
    refine x_iconst 28 1 (ab_dd tk_re_put 15 rfl) rfl (by decide) (x_topn 1 rfl ?_)
    refine x_iadd 29 (ab_dd tk_re_put 16 rfl) rfl (x_topn (N0 + 1) (nI_add _ _) ?_)
    refine t_putI 32 (ab_dd tk_re_put 17 rfl) rfl F_re_55 (by decide) (Nat.lt_of_lt_of_le (by decide) hD.1.1) (hD.1.2.1 22 (by decide)) rfl rfl rfl ?_
    have hE : sEq [72, 77] S (pI (pI S 77 N0 y) 72 12 (nI (N0 + 1))) := (sEq.rf.pI (by simp)).pI (by simp)
    have ho : ∀ j, j ≠ 12 → sI (pI (pI S 77 N0 y) 72 12 (nI (N0 + 1))) 72 j = sI S 72 j := fun j hj => (gI_k hj).trans (congrFun (gI_o (by decide)) j)
    obtain ⟨a1, a2, a3, a4, a5, a6, a7, a8, a9, a10, -⟩ := hD
    have hqD : qD (pI (pI S 77 N0 y) 72 12 (nI (N0 + 1))) n e := ⟨a1.eq hE, a2, a3, a4, (ho 1 (by decide)).trans a5, (ho 2 (by decide)).trans a6, (ho 4 (by decide)).trans a7, (ho 6 (by decide)).trans a8, (ho 7 (by decide)).trans a9, a10, N0 + 1, by omega, gI_s⟩
    exact x_vret (ab_dd tk_re_put 18 rfl) ⟨rfl, _, rfl, ⟨hE, fun j hj => ho j (by omega)⟩, hqD, fun B ⟨N, b1, b2, b3⟩ => ⟨N0 + 1, by
      rw [hN1] at b3
      have := (nI_eq (by omega) (by omega)).mp b3
      omega, by omega, gI_s⟩⟩
theorem qLv.ne {S : ab_S} {tp : Nat → Nat} {n p : Nat} {x : Int32} (h : qLv S tp n p) : qLv (pI S 72 10 x) tp n p := by
  have hE : sEq [72] S (pI S 72 10 x) := sEq.rf.pI (by simp)
  have ho : ∀ j, j ≠ 10 → sI (pI S 72 10 x) 72 j = sI S 72 j := fun j hj => gI_k hj
  obtain ⟨a1, a2, a3, a4, a5, a6, a7, a8, a9, N, a10, a11⟩ := h
  exact ⟨a1.eq hE, a2, a3.eq hE (by decide), a4, a5, (ho 1 (by decide)).trans a6, a7, ⟨(ho 2 (by decide)).trans a8.1, (ho 3 (by decide)).trans a8.2.1, (ho 4 (by decide)).trans a8.2.2.1, fun z => (ho 5 (by decide)).trans (a8.2.2.2.1 z), fun z => (ho 5 (by decide)).trans (a8.2.2.2.2 z)⟩, ⟨(ho 6 (by decide)).trans a9.1, (ho 7 (by decide)).trans a9.2⟩, N, a10, (ho 12 (by decide)).trans a11⟩
theorem qD.ne {S : ab_S} {n : Nat} {e : Nat × Nat} {x : Int32} (h : qD S n e) : qD (pI S 72 10 x) n e := by
  have hE : sEq [72] S (pI S 72 10 x) := sEq.rf.pI (by simp)
  have ho : ∀ j, j ≠ 10 → sI (pI S 72 10 x) 72 j = sI S 72 j := fun j hj => gI_k hj
  obtain ⟨a1, a2, a3, a4, a5, a6, a7, a8, a9, a10, N, a11, a12⟩ := h
  exact ⟨a1.eq hE, a2, a3, a4, (ho 1 (by decide)).trans a5, (ho 2 (by decide)).trans a6, (ho 4 (by decide)).trans a7, (ho 6 (by decide)).trans a8, (ho 7 (by decide)).trans a9, a10, N, a11, (ho 12 (by decide)).trans a12⟩
theorem qF.ne {S S1 : ab_S} {x : Int32} (h : qF S S1) : qF S (pI S1 72 10 x) := ⟨h.1.pI (by simp), fun j hj => (gI_k (by omega)).trans (h.2 j hj)⟩
def nmV (x : Option Nat) : Int32 := match x with
  | none => 0
  | some w => cvt (nI (1000 + w))
def tb_re_nameHere : List (Nat × Instr × Nat) := [(0, .aload_n 0, 1), (1, .ldc 91, 2), (3, .invokevirtual 93, 3), (6, .ifCond .eq 5, 3), (9, .iconst (-1), 1), (10, .ireturn, 1), (11, .aload_n 0, 1), (12, .ldc 121, 2), (14, .invokevirtual 93, 3), (17, .ifCond .eq 6, 3), (20, .bipush (-2), 2), (22, .ireturn, 1), (23, .aload_n 0, 1), (24, .ldc 130, 2), (26, .invokevirtual 93, 3), (29, .ifCond .eq 6, 3), (32, .bipush (-3), 2), (34, .ireturn, 1), (35, .aload_n 0, 1), (36, .ldc 205, 2), (38, .invokevirtual 93, 3), (41, .ifCond .eq 6, 3), (44, .bipush (-4), 2), (46, .ireturn, 1), (47, .aload_n 0, 1), (48, .ldc 207, 2), (50, .invokevirtual 93, 3), (53, .ifCond .eq 6, 3), (56, .bipush (-5), 2), (58, .ireturn, 1), (59, .aload_n 0, 1), (60, .ldc 73, 2), (62, .invokevirtual 93, 3), (65, .ifCond .eq 6, 3), (68, .bipush (-6), 2), (70, .ireturn, 1), (71, .aload_n 0, 1), (72, .getfield 44, 3), (75, .ifCond .eq 5, 3), (78, .iconst 0, 1), (79, .ireturn, 1), (80, .aload_n 0, 1), (81, .ldc 209, 2), (83, .invokevirtual 93, 3), (86, .ifCond .eq 6, 3), (89, .bipush (-7), 2), (91, .ireturn, 1), (92, .aload_n 0, 1), (93, .ldc 211, 2), (95, .invokevirtual 93, 3), (98, .ifCond .eq 6, 3), (101, .bipush (-8), 2), (103, .ireturn, 1), (104, .aload_n 0, 1), (105, .ldc 213, 2), (107, .invokevirtual 93, 3), (110, .ifCond .eq 8, 3), (113, .bipush (-9), 2), (115, .goto 4, 3), (118, .iconst 0, 1), (119, .ireturn, 1)]
theorem tk_re_nameHere : ∀ q ∈ tb_re_nameHere, decode M_re_nameHere.2.1 q.1 = .ok q.2 := by decide +kernel
theorem LA_nameHere {G : ab_G} {S : ab_S} {tp : Nat → Nat} {n p : Nat} (hL : qLv S tp n p) (la : Nat) (hla : la < 2) (h9 : sI S 72 9 = nI la) : ab_C G 5 M_re_nameHere [.ref 72] (sw S) (fun v w' => v = some (.int (nmV (pW la (tK tp n p)))) ∧ w' = sw S) := by
  refine x_enter [some (.ref 72)] (by decide) (Nat.le_of_ble_eq_true rfl) rfl (fun v w' h => by obtain ⟨rfl, rfl⟩ := h; rfl) ?_
  have hLb := hL
  obtain ⟨-, -, -, hn9, -, -, hpn, -, -, N0, hN0, hN1⟩ := hLb
  have hSb := tS_b tp hpn
  have hEb := tE_b tp hpn
  have hgap := tK_gap tp n p
  have hKlt := tK_lt tp n p
  obtain ⟨k0, k1, k2, k3, k4⟩ := ckd_i (tK tp n p) hgap
  have kl := ckd_lt (tK tp n p)
  refine x_aload_n 1 0 (ab_dd tk_re_nameHere 0 rfl) rfl rfl rfl ?_
  refine x_ldcS 3 3 (ab_dd tk_re_nameHere 1 rfl) rfl (by decide) (List.mem_of_getElem? (i := 3) rfl) ?_
  refine t_callV 6 M_re_isWord 4 1 [_] (ab_dd tk_re_nameHere 2 rfl) rfl (by first | decide | omega) K_re_isWord V_re_isWord.1 V_re_isWord.2 L_re_93 rfl (Nat.le_of_ble_eq_true rfl) (by decide) (Nat.lt_of_lt_of_le (by decide) hL.1.1) (hL.1.2.1 22 (by decide)) rfl (LA_isWord hL 2 3 (by decide) rfl) (fun v1 w1 h1 => ?_)
  obtain ⟨rfl, rfl⟩ := h1
  refine xb_if_eq 9 11 (ab_dd tk_re_nameHere 3 rfl) rfl (by decide) (fun h6 => ?_) (fun h6 => ?_)
  · refine x_aload_n 12 0 (ab_dd tk_re_nameHere 6 rfl) rfl rfl rfl ?_
    refine x_ldcS 14 4 (ab_dd tk_re_nameHere 7 rfl) rfl (by decide) (List.mem_of_getElem? (i := 4) rfl) ?_
    refine t_callV 17 M_re_isWord 4 1 [_] (ab_dd tk_re_nameHere 8 rfl) rfl (by first | decide | omega) K_re_isWord V_re_isWord.1 V_re_isWord.2 L_re_93 rfl (Nat.le_of_ble_eq_true rfl) (by decide) (Nat.lt_of_lt_of_le (by decide) hL.1.1) (hL.1.2.1 22 (by decide)) rfl (LA_isWord hL 3 4 (by decide) rfl) (fun v1 w1 h1 => ?_)
    obtain ⟨rfl, rfl⟩ := h1
    refine xb_if_eq 20 23 (ab_dd tk_re_nameHere 9 rfl) rfl (by decide) (fun h17 => ?_) (fun h17 => ?_)
    · refine x_aload_n 24 0 (ab_dd tk_re_nameHere 12 rfl) rfl rfl rfl ?_
      refine x_ldcS 26 5 (ab_dd tk_re_nameHere 13 rfl) rfl (by decide) (List.mem_of_getElem? (i := 5) rfl) ?_
      refine t_callV 29 M_re_isWord 4 1 [_] (ab_dd tk_re_nameHere 14 rfl) rfl (by first | decide | omega) K_re_isWord V_re_isWord.1 V_re_isWord.2 L_re_93 rfl (Nat.le_of_ble_eq_true rfl) (by decide) (Nat.lt_of_lt_of_le (by decide) hL.1.1) (hL.1.2.1 22 (by decide)) rfl (LA_isWord hL 4 5 (by decide) rfl) (fun v1 w1 h1 => ?_)
      obtain ⟨rfl, rfl⟩ := h1
      refine xb_if_eq 32 35 (ab_dd tk_re_nameHere 15 rfl) rfl (by decide) (fun h29 => ?_) (fun h29 => ?_)
      · refine x_aload_n 36 0 (ab_dd tk_re_nameHere 18 rfl) rfl rfl rfl ?_
        refine x_ldcS 38 14 (ab_dd tk_re_nameHere 19 rfl) rfl (by decide) (List.mem_of_getElem? (i := 14) rfl) ?_
        refine t_callV 41 M_re_isWord 4 1 [_] (ab_dd tk_re_nameHere 20 rfl) rfl (by first | decide | omega) K_re_isWord V_re_isWord.1 V_re_isWord.2 L_re_93 rfl (Nat.le_of_ble_eq_true rfl) (by decide) (Nat.lt_of_lt_of_le (by decide) hL.1.1) (hL.1.2.1 22 (by decide)) rfl (LA_isWord hL 13 14 (by decide) rfl) (fun v1 w1 h1 => ?_)
        obtain ⟨rfl, rfl⟩ := h1
        refine xb_if_eq 44 47 (ab_dd tk_re_nameHere 21 rfl) rfl (by decide) (fun h41 => ?_) (fun h41 => ?_)
        · refine x_aload_n 48 0 (ab_dd tk_re_nameHere 24 rfl) rfl rfl rfl ?_
          refine x_ldcS 50 15 (ab_dd tk_re_nameHere 25 rfl) rfl (by decide) (List.mem_of_getElem? (i := 15) rfl) ?_
          refine t_callV 53 M_re_isWord 4 1 [_] (ab_dd tk_re_nameHere 26 rfl) rfl (by first | decide | omega) K_re_isWord V_re_isWord.1 V_re_isWord.2 L_re_93 rfl (Nat.le_of_ble_eq_true rfl) (by decide) (Nat.lt_of_lt_of_le (by decide) hL.1.1) (hL.1.2.1 22 (by decide)) rfl (LA_isWord hL 14 15 (by decide) rfl) (fun v1 w1 h1 => ?_)
          obtain ⟨rfl, rfl⟩ := h1
          refine xb_if_eq 56 59 (ab_dd tk_re_nameHere 27 rfl) rfl (by decide) (fun h53 => ?_) (fun h53 => ?_)
          · refine x_aload_n 60 0 (ab_dd tk_re_nameHere 30 rfl) rfl rfl rfl ?_
            refine x_ldcS 62 2 (ab_dd tk_re_nameHere 31 rfl) rfl (by decide) (List.mem_of_getElem? (i := 2) rfl) ?_
            refine t_callV 65 M_re_isWord 4 1 [_] (ab_dd tk_re_nameHere 32 rfl) rfl (by first | decide | omega) K_re_isWord V_re_isWord.1 V_re_isWord.2 L_re_93 rfl (Nat.le_of_ble_eq_true rfl) (by decide) (Nat.lt_of_lt_of_le (by decide) hL.1.1) (hL.1.2.1 22 (by decide)) rfl (LA_isWord hL 1 2 (by decide) rfl) (fun v1 w1 h1 => ?_)
            obtain ⟨rfl, rfl⟩ := h1
            refine xb_if_eq 68 71 (ab_dd tk_re_nameHere 33 rfl) rfl (by decide) (fun h65 => ?_) (fun h65 => ?_)
            · refine x_aload_n 72 0 (ab_dd tk_re_nameHere 36 rfl) rfl rfl rfl ?_
              refine t_getI 75 (ab_dd tk_re_nameHere 37 rfl) rfl F_re_44 (by decide) (Nat.lt_of_lt_of_le (by decide) hL.1.1) (hL.1.2.1 22 (by decide)) rfl (x_topn la h9 ?_)
              refine xn_if_eq 78 80 (ab_dd tk_re_nameHere 38 rfl) rfl (by decide) (by omega) (fun h75 => ?_) (fun h75 => ?_)
              · refine x_aload_n 81 0 (ab_dd tk_re_nameHere 41 rfl) rfl rfl rfl ?_
                refine x_ldcS 83 16 (ab_dd tk_re_nameHere 42 rfl) rfl (by decide) (List.mem_of_getElem? (i := 16) rfl) ?_
                refine t_callV 86 M_re_isWord 4 1 [_] (ab_dd tk_re_nameHere 43 rfl) rfl (by first | decide | omega) K_re_isWord V_re_isWord.1 V_re_isWord.2 L_re_93 rfl (Nat.le_of_ble_eq_true rfl) (by decide) (Nat.lt_of_lt_of_le (by decide) hL.1.1) (hL.1.2.1 22 (by decide)) rfl (LA_isWord hL 15 16 (by decide) rfl) (fun v1 w1 h1 => ?_)
                obtain ⟨rfl, rfl⟩ := h1
                refine xb_if_eq 89 92 (ab_dd tk_re_nameHere 44 rfl) rfl (by decide) (fun h86 => ?_) (fun h86 => ?_)
                · refine x_aload_n 93 0 (ab_dd tk_re_nameHere 47 rfl) rfl rfl rfl ?_
                  refine x_ldcS 95 17 (ab_dd tk_re_nameHere 48 rfl) rfl (by decide) (List.mem_of_getElem? (i := 17) rfl) ?_
                  refine t_callV 98 M_re_isWord 4 1 [_] (ab_dd tk_re_nameHere 49 rfl) rfl (by first | decide | omega) K_re_isWord V_re_isWord.1 V_re_isWord.2 L_re_93 rfl (Nat.le_of_ble_eq_true rfl) (by decide) (Nat.lt_of_lt_of_le (by decide) hL.1.1) (hL.1.2.1 22 (by decide)) rfl (LA_isWord hL 16 17 (by decide) rfl) (fun v1 w1 h1 => ?_)
                  obtain ⟨rfl, rfl⟩ := h1
                  refine xb_if_eq 101 104 (ab_dd tk_re_nameHere 50 rfl) rfl (by decide) (fun h98 => ?_) (fun h98 => ?_)
                  · refine x_aload_n 105 0 (ab_dd tk_re_nameHere 53 rfl) rfl rfl rfl ?_
                    refine x_ldcS 107 18 (ab_dd tk_re_nameHere 54 rfl) rfl (by decide) (List.mem_of_getElem? (i := 18) rfl) ?_
                    refine t_callV 110 M_re_isWord 4 1 [_] (ab_dd tk_re_nameHere 55 rfl) rfl (by first | decide | omega) K_re_isWord V_re_isWord.1 V_re_isWord.2 L_re_93 rfl (Nat.le_of_ble_eq_true rfl) (by decide) (Nat.lt_of_lt_of_le (by decide) hL.1.1) (hL.1.2.1 22 (by decide)) rfl (LA_isWord hL 17 18 (by decide) rfl) (fun v1 w1 h1 => ?_)
                    obtain ⟨rfl, rfl⟩ := h1
                    refine xb_if_eq 113 118 (ab_dd tk_re_nameHere 56 rfl) rfl (by decide) (fun h110 => ?_) (fun h110 => ?_)
                    · refine x_iconst 119 0 (ab_dd tk_re_nameHere 59 rfl) rfl (by decide) (x_topn 0 rfl ?_)
                      exact x_iret (ab_dd tk_re_nameHere 60 rfl) ⟨rI (by rw [show pW la (tK tp n p) = none by unfold pW; rw [if_neg h6, if_neg h17, if_neg h29, if_neg h41, if_neg h53, if_neg h65, if_neg (by omega)]]; rfl), rfl⟩
                    · refine x_bipush 115 (-9) (ab_dd tk_re_nameHere 57 rfl) rfl (by decide) ?_
                      refine x_goto 119 (ab_dd tk_re_nameHere 58 rfl) (by decide) ?_
                      exact x_iret (ab_dd tk_re_nameHere 60 rfl) ⟨rI (by rw [show pW la (tK tp n p) = some 8 by unfold pW; rw [if_neg h6, if_neg h17, if_neg h29, if_neg h41, if_neg h53, if_neg h65, if_pos (by omega), h110]]; decide), rfl⟩
                  · refine x_bipush 103 (-8) (ab_dd tk_re_nameHere 51 rfl) rfl (by decide) ?_
                    exact x_iret (ab_dd tk_re_nameHere 52 rfl) ⟨rI (by rw [show pW la (tK tp n p) = some 7 by unfold pW; rw [if_neg h6, if_neg h17, if_neg h29, if_neg h41, if_neg h53, if_neg h65, if_pos (by omega), h98]]; decide), rfl⟩
                · refine x_bipush 91 (-7) (ab_dd tk_re_nameHere 45 rfl) rfl (by decide) ?_
                  exact x_iret (ab_dd tk_re_nameHere 46 rfl) ⟨rI (by rw [show pW la (tK tp n p) = some 6 by unfold pW; rw [if_neg h6, if_neg h17, if_neg h29, if_neg h41, if_neg h53, if_neg h65, if_pos (by omega), h86]]; decide), rfl⟩
              · refine x_iconst 79 0 (ab_dd tk_re_nameHere 39 rfl) rfl (by decide) (x_topn 0 rfl ?_)
                exact x_iret (ab_dd tk_re_nameHere 40 rfl) ⟨rI (by rw [show pW la (tK tp n p) = none by unfold pW; rw [if_neg h6, if_neg h17, if_neg h29, if_neg h41, if_neg h53, if_neg h65, if_neg (by omega)]]; rfl), rfl⟩
            · refine x_bipush 70 (-6) (ab_dd tk_re_nameHere 34 rfl) rfl (by decide) ?_
              exact x_iret (ab_dd tk_re_nameHere 35 rfl) ⟨rI (by rw [show pW la (tK tp n p) = some 5 by unfold pW; rw [if_neg h6, if_neg h17, if_neg h29, if_neg h41, if_neg h53, if_pos h65]]; decide), rfl⟩
          · refine x_bipush 58 (-5) (ab_dd tk_re_nameHere 28 rfl) rfl (by decide) ?_
            exact x_iret (ab_dd tk_re_nameHere 29 rfl) ⟨rI (by rw [show pW la (tK tp n p) = some 4 by unfold pW; rw [if_neg h6, if_neg h17, if_neg h29, if_neg h41, if_pos h53]]; decide), rfl⟩
        · refine x_bipush 46 (-4) (ab_dd tk_re_nameHere 22 rfl) rfl (by decide) ?_
          exact x_iret (ab_dd tk_re_nameHere 23 rfl) ⟨rI (by rw [show pW la (tK tp n p) = some 3 by unfold pW; rw [if_neg h6, if_neg h17, if_neg h29, if_pos h41]]; decide), rfl⟩
      · refine x_bipush 34 (-3) (ab_dd tk_re_nameHere 16 rfl) rfl (by decide) ?_
        exact x_iret (ab_dd tk_re_nameHere 17 rfl) ⟨rI (by rw [show pW la (tK tp n p) = some 2 by unfold pW; rw [if_neg h6, if_neg h17, if_pos h29]]; decide), rfl⟩
    · refine x_bipush 22 (-2) (ab_dd tk_re_nameHere 10 rfl) rfl (by decide) ?_
      exact x_iret (ab_dd tk_re_nameHere 11 rfl) ⟨rI (by rw [show pW la (tK tp n p) = some 1 by unfold pW; rw [if_neg h6, if_pos h17]]; decide), rfl⟩
  · refine x_iconst 10 (-1) (ab_dd tk_re_nameHere 4 rfl) rfl (by decide) ?_
    exact x_iret (ab_dd tk_re_nameHere 5 rfl) ⟨rI (by rw [show pW la (tK tp n p) = some 0 by unfold pW; rw [if_pos h6]]; decide), rfl⟩
theorem DA_nameHere {G : ab_G} {S : ab_S} {n : Nat} {e : Nat × Nat} (hD : qD S n e)  : ab_C G 5 M_re_nameHere [.ref 72] (sw S) (fun v w' => v = some (.int (nI 0)) ∧ w' = sw S) := by
  refine x_enter [some (.ref 72)] (by decide) (Nat.le_of_ble_eq_true rfl) rfl (fun v w' h => by obtain ⟨rfl, rfl⟩ := h; rfl) ?_
  have hDb := hD
  obtain ⟨-, -, hn9, -, -, -, -, -, -, ⟨he0, he5⟩, N0, hN0, hN1⟩ := hDb
  refine x_aload_n 1 0 (ab_dd tk_re_nameHere 0 rfl) rfl rfl rfl ?_
  refine x_ldcS 3 3 (ab_dd tk_re_nameHere 1 rfl) rfl (by decide) (List.mem_of_getElem? (i := 3) rfl) ?_
  refine t_callV 6 M_re_isWord 4 1 [_] (ab_dd tk_re_nameHere 2 rfl) rfl (by first | decide | omega) K_re_isWord V_re_isWord.1 V_re_isWord.2 L_re_93 rfl (Nat.le_of_ble_eq_true rfl) (by decide) (Nat.lt_of_lt_of_le (by decide) hD.1.1) (hD.1.2.1 22 (by decide)) rfl (DA_isWord hD _) (fun v1 w1 h1 => ?_)
  obtain ⟨rfl, rfl⟩ := h1
  refine x_if_eq_t 11 (ab_dd tk_re_nameHere 3 rfl) (by decide) ((nI_eq (a := 0) (b := 0) (by omega) (by omega)).mpr (show 0 = 0 by rfl)) ?_
  refine x_aload_n 12 0 (ab_dd tk_re_nameHere 6 rfl) rfl rfl rfl ?_
  refine x_ldcS 14 4 (ab_dd tk_re_nameHere 7 rfl) rfl (by decide) (List.mem_of_getElem? (i := 4) rfl) ?_
  refine t_callV 17 M_re_isWord 4 1 [_] (ab_dd tk_re_nameHere 8 rfl) rfl (by first | decide | omega) K_re_isWord V_re_isWord.1 V_re_isWord.2 L_re_93 rfl (Nat.le_of_ble_eq_true rfl) (by decide) (Nat.lt_of_lt_of_le (by decide) hD.1.1) (hD.1.2.1 22 (by decide)) rfl (DA_isWord hD _) (fun v1 w1 h1 => ?_)
  obtain ⟨rfl, rfl⟩ := h1
  refine x_if_eq_t 23 (ab_dd tk_re_nameHere 9 rfl) (by decide) ((nI_eq (a := 0) (b := 0) (by omega) (by omega)).mpr (show 0 = 0 by rfl)) ?_
  refine x_aload_n 24 0 (ab_dd tk_re_nameHere 12 rfl) rfl rfl rfl ?_
  refine x_ldcS 26 5 (ab_dd tk_re_nameHere 13 rfl) rfl (by decide) (List.mem_of_getElem? (i := 5) rfl) ?_
  refine t_callV 29 M_re_isWord 4 1 [_] (ab_dd tk_re_nameHere 14 rfl) rfl (by first | decide | omega) K_re_isWord V_re_isWord.1 V_re_isWord.2 L_re_93 rfl (Nat.le_of_ble_eq_true rfl) (by decide) (Nat.lt_of_lt_of_le (by decide) hD.1.1) (hD.1.2.1 22 (by decide)) rfl (DA_isWord hD _) (fun v1 w1 h1 => ?_)
  obtain ⟨rfl, rfl⟩ := h1
  refine x_if_eq_t 35 (ab_dd tk_re_nameHere 15 rfl) (by decide) ((nI_eq (a := 0) (b := 0) (by omega) (by omega)).mpr (show 0 = 0 by rfl)) ?_
  refine x_aload_n 36 0 (ab_dd tk_re_nameHere 18 rfl) rfl rfl rfl ?_
  refine x_ldcS 38 14 (ab_dd tk_re_nameHere 19 rfl) rfl (by decide) (List.mem_of_getElem? (i := 14) rfl) ?_
  refine t_callV 41 M_re_isWord 4 1 [_] (ab_dd tk_re_nameHere 20 rfl) rfl (by first | decide | omega) K_re_isWord V_re_isWord.1 V_re_isWord.2 L_re_93 rfl (Nat.le_of_ble_eq_true rfl) (by decide) (Nat.lt_of_lt_of_le (by decide) hD.1.1) (hD.1.2.1 22 (by decide)) rfl (DA_isWord hD _) (fun v1 w1 h1 => ?_)
  obtain ⟨rfl, rfl⟩ := h1
  refine x_if_eq_t 47 (ab_dd tk_re_nameHere 21 rfl) (by decide) ((nI_eq (a := 0) (b := 0) (by omega) (by omega)).mpr (show 0 = 0 by rfl)) ?_
  refine x_aload_n 48 0 (ab_dd tk_re_nameHere 24 rfl) rfl rfl rfl ?_
  refine x_ldcS 50 15 (ab_dd tk_re_nameHere 25 rfl) rfl (by decide) (List.mem_of_getElem? (i := 15) rfl) ?_
  refine t_callV 53 M_re_isWord 4 1 [_] (ab_dd tk_re_nameHere 26 rfl) rfl (by first | decide | omega) K_re_isWord V_re_isWord.1 V_re_isWord.2 L_re_93 rfl (Nat.le_of_ble_eq_true rfl) (by decide) (Nat.lt_of_lt_of_le (by decide) hD.1.1) (hD.1.2.1 22 (by decide)) rfl (DA_isWord hD _) (fun v1 w1 h1 => ?_)
  obtain ⟨rfl, rfl⟩ := h1
  refine x_if_eq_t 59 (ab_dd tk_re_nameHere 27 rfl) (by decide) ((nI_eq (a := 0) (b := 0) (by omega) (by omega)).mpr (show 0 = 0 by rfl)) ?_
  refine x_aload_n 60 0 (ab_dd tk_re_nameHere 30 rfl) rfl rfl rfl ?_
  refine x_ldcS 62 2 (ab_dd tk_re_nameHere 31 rfl) rfl (by decide) (List.mem_of_getElem? (i := 2) rfl) ?_
  refine t_callV 65 M_re_isWord 4 1 [_] (ab_dd tk_re_nameHere 32 rfl) rfl (by first | decide | omega) K_re_isWord V_re_isWord.1 V_re_isWord.2 L_re_93 rfl (Nat.le_of_ble_eq_true rfl) (by decide) (Nat.lt_of_lt_of_le (by decide) hD.1.1) (hD.1.2.1 22 (by decide)) rfl (DA_isWord hD _) (fun v1 w1 h1 => ?_)
  obtain ⟨rfl, rfl⟩ := h1
  refine x_if_eq_t 71 (ab_dd tk_re_nameHere 33 rfl) (by decide) ((nI_eq (a := 0) (b := 0) (by omega) (by omega)).mpr (show 0 = 0 by rfl)) ?_
  refine x_aload_n 72 0 (ab_dd tk_re_nameHere 36 rfl) rfl rfl rfl ?_
  refine t_getI 75 (ab_dd tk_re_nameHere 37 rfl) rfl F_re_44 (by decide) (Nat.lt_of_lt_of_le (by decide) hD.1.1) (hD.1.2.1 22 (by decide)) rfl ?_
  refine x_if_eq 78 80 (ab_dd tk_re_nameHere 38 rfl) rfl (by decide) (fun h75 => ?_) (fun h75 => ?_)
  · refine x_aload_n 81 0 (ab_dd tk_re_nameHere 41 rfl) rfl rfl rfl ?_
    refine x_ldcS 83 16 (ab_dd tk_re_nameHere 42 rfl) rfl (by decide) (List.mem_of_getElem? (i := 16) rfl) ?_
    refine t_callV 86 M_re_isWord 4 1 [_] (ab_dd tk_re_nameHere 43 rfl) rfl (by first | decide | omega) K_re_isWord V_re_isWord.1 V_re_isWord.2 L_re_93 rfl (Nat.le_of_ble_eq_true rfl) (by decide) (Nat.lt_of_lt_of_le (by decide) hD.1.1) (hD.1.2.1 22 (by decide)) rfl (DA_isWord hD _) (fun v1 w1 h1 => ?_)
    obtain ⟨rfl, rfl⟩ := h1
    refine x_if_eq_t 92 (ab_dd tk_re_nameHere 44 rfl) (by decide) ((nI_eq (a := 0) (b := 0) (by omega) (by omega)).mpr (show 0 = 0 by rfl)) ?_
    refine x_aload_n 93 0 (ab_dd tk_re_nameHere 47 rfl) rfl rfl rfl ?_
    refine x_ldcS 95 17 (ab_dd tk_re_nameHere 48 rfl) rfl (by decide) (List.mem_of_getElem? (i := 17) rfl) ?_
    refine t_callV 98 M_re_isWord 4 1 [_] (ab_dd tk_re_nameHere 49 rfl) rfl (by first | decide | omega) K_re_isWord V_re_isWord.1 V_re_isWord.2 L_re_93 rfl (Nat.le_of_ble_eq_true rfl) (by decide) (Nat.lt_of_lt_of_le (by decide) hD.1.1) (hD.1.2.1 22 (by decide)) rfl (DA_isWord hD _) (fun v1 w1 h1 => ?_)
    obtain ⟨rfl, rfl⟩ := h1
    refine x_if_eq_t 104 (ab_dd tk_re_nameHere 50 rfl) (by decide) ((nI_eq (a := 0) (b := 0) (by omega) (by omega)).mpr (show 0 = 0 by rfl)) ?_
    refine x_aload_n 105 0 (ab_dd tk_re_nameHere 53 rfl) rfl rfl rfl ?_
    refine x_ldcS 107 18 (ab_dd tk_re_nameHere 54 rfl) rfl (by decide) (List.mem_of_getElem? (i := 18) rfl) ?_
    refine t_callV 110 M_re_isWord 4 1 [_] (ab_dd tk_re_nameHere 55 rfl) rfl (by first | decide | omega) K_re_isWord V_re_isWord.1 V_re_isWord.2 L_re_93 rfl (Nat.le_of_ble_eq_true rfl) (by decide) (Nat.lt_of_lt_of_le (by decide) hD.1.1) (hD.1.2.1 22 (by decide)) rfl (DA_isWord hD _) (fun v1 w1 h1 => ?_)
    obtain ⟨rfl, rfl⟩ := h1
    refine x_if_eq_t 118 (ab_dd tk_re_nameHere 56 rfl) (by decide) ((nI_eq (a := 0) (b := 0) (by omega) (by omega)).mpr (show 0 = 0 by rfl)) ?_
    refine x_iconst 119 0 (ab_dd tk_re_nameHere 59 rfl) rfl (by decide) (x_topn 0 rfl ?_)
    exact x_iret (ab_dd tk_re_nameHere 60 rfl) ⟨rfl, rfl⟩
  · refine x_iconst 79 0 (ab_dd tk_re_nameHere 39 rfl) rfl (by decide) (x_topn 0 rfl ?_)
    exact x_iret (ab_dd tk_re_nameHere 40 rfl) ⟨rfl, rfl⟩
def tb_re_enter : List (Nat × Instr × Nat) := [(0, .aload_n 0, 1), (1, .getfield 48, 3), (4, .bipush 6, 2), (6, .if_icmp .lt 10, 3), (9, .aload_n 0, 1), (10, .iconst 4, 1), (11, .invokevirtual 114, 3), (14, .iconst 0, 1), (15, .ireturn, 1), (16, .aload_n 0, 1), (17, .dup, 1), (18, .getfield 48, 3), (21, .iconst 1, 1), (22, .iadd, 1), (23, .putfield 48, 3), (26, .aload_n 0, 1), (27, .invokevirtual 64, 3), (30, .iconst 1, 1), (31, .ireturn, 1)]
theorem tk_re_enter : ∀ q ∈ tb_re_enter, decode M_re_enter.2.1 q.1 = .ok q.2 := by decide +kernel
theorem LA_enter {G : ab_G} {S : ab_S} {tp : Nat → Nat} {n p : Nat} (hL : qLv S tp n p) (deep : Nat) (hd6 : deep ≤ 6) (h10 : sI S 72 10 = nI deep) (h24 : tK tp n p ≠ 24) : ab_C G 6 M_re_enter [.ref 72] (sw S) (fun v w' => (deep = 6 ∧ v = some (.int (nI 0)) ∧ ∃ S', w' = sw S' ∧ qF S S' ∧ qD S' n (pE tp n p 4) ∧ sI S' 72 12 = sI S 72 12) ∨ (deep ≠ 6 ∧ v = some (.int (nI 1)) ∧ ∃ S', w' = sw S' ∧ qF S S' ∧ sI S' 77 = sI S 77 ∧ sI S' 72 12 = sI S 72 12 ∧ sI S' 72 10 = nI (deep + 1) ∧ qLv S' tp n (tE tp n p))) := by
  refine x_enter [some (.ref 72)] (by decide) (Nat.le_of_ble_eq_true rfl) rfl (fun v w' h => by rcases h with ⟨-, rfl, -⟩ | ⟨-, rfl, -⟩ <;> rfl) ?_
  have hLb := hL
  obtain ⟨-, -, -, hn9, -, -, hpn, -, -, N0, hN0, hN1⟩ := hLb
  have hSb := tS_b tp hpn
  have hEb := tE_b tp hpn
  have hgap := tK_gap tp n p
  have hKlt := tK_lt tp n p
  obtain ⟨k0, k1, k2, k3, k4⟩ := ckd_i (tK tp n p) hgap
  have kl := ckd_lt (tK tp n p)
  refine x_aload_n 1 0 (ab_dd tk_re_enter 0 rfl) rfl rfl rfl ?_
  refine t_getI 4 (ab_dd tk_re_enter 1 rfl) rfl F_re_48 (by decide) (Nat.lt_of_lt_of_le (by decide) hL.1.1) (hL.1.2.1 22 (by decide)) rfl (x_topn deep h10 ?_)
  refine x_bipush 6 6 (ab_dd tk_re_enter 2 rfl) rfl (by decide) (x_topn 6 rfl ?_)
  refine xn_icmp_lt 9 16 (ab_dd tk_re_enter 3 rfl) rfl (by decide) (by omega) (by omega) (fun h6 => ?_) (fun h6 => ?_)
  · refine x_aload_n 17 0 (ab_dd tk_re_enter 9 rfl) rfl rfl rfl ?_
    refine x_dup 18 (ab_dd tk_re_enter 10 rfl) rfl rfl ?_
    refine t_getI 21 (ab_dd tk_re_enter 11 rfl) rfl F_re_48 (by decide) (Nat.lt_of_lt_of_le (by decide) hL.1.1) (hL.1.2.1 22 (by decide)) rfl (x_topn deep h10 ?_)
    refine x_iconst 22 1 (ab_dd tk_re_enter 12 rfl) rfl (by decide) (x_topn 1 rfl ?_)
    refine x_iadd 23 (ab_dd tk_re_enter 13 rfl) rfl (x_topn (deep + 1) (nI_add _ _) ?_)
    refine t_putI 26 (ab_dd tk_re_enter 14 rfl) rfl F_re_48 (by decide) (Nat.lt_of_lt_of_le (by decide) hL.1.1) (hL.1.2.1 22 (by decide)) rfl rfl rfl ?_
    refine x_aload_n 27 0 (ab_dd tk_re_enter 15 rfl) rfl rfl rfl ?_
    refine t_callV 30 M_re_advance 5 0 [] (ab_dd tk_re_enter 16 rfl) rfl (by first | decide | omega) K_re_advance V_re_advance.1 V_re_advance.2 L_re_64 rfl (Nat.le_of_ble_eq_true rfl) (by decide) (Nat.lt_of_lt_of_le (by decide) hL.1.1) (hL.1.2.1 22 (by decide)) rfl (LA_adv hL.ne h24) (fun v1 w1 h1 => ?_)
    obtain ⟨rfl, S2, rfl, hG2, hL2⟩ := h1
    refine x_iconst 31 1 (ab_dd tk_re_enter 17 rfl) rfl (by decide) (x_topn 1 rfl ?_)
    exact x_iret (ab_dd tk_re_enter 18 rfl) (Or.inr ⟨by omega, rfl, S2, rfl, (qF.rf.ne (x := nI (deep + 1))).tr hG2.F, hG2.la.trans (gI_o (by decide)), (hG2.2 12 (by omega)).trans (gI_k (by decide)), (hG2.2 10 (by omega)).trans gI_s, hL2⟩)
  · refine x_aload_n 10 0 (ab_dd tk_re_enter 4 rfl) rfl rfl rfl ?_
    refine x_iconst 11 4 (ab_dd tk_re_enter 5 rfl) rfl (by decide) (x_topn 4 rfl ?_)
    refine t_callV 14 M_re_refuse 0 1 [_] (ab_dd tk_re_enter 6 rfl) rfl (by first | decide | omega) K_re_refuse V_re_refuse.1 V_re_refuse.2 L_re_114 rfl (Nat.le_of_ble_eq_true rfl) (by decide) (Nat.lt_of_lt_of_le (by decide) hL.1.1) (hL.1.2.1 22 (by decide)) rfl (LA_refuse hL 4 (by decide) (by decide)) (fun v1 w1 h1 => ?_)
    obtain ⟨rfl, S2, rfl, hG2, hD2⟩ := h1
    refine x_iconst 15 0 (ab_dd tk_re_enter 7 rfl) rfl (by decide) (x_topn 0 rfl ?_)
    exact x_iret (ab_dd tk_re_enter 8 rfl) (Or.inl ⟨by omega, rfl, S2, rfl, hG2.F, hD2, hG2.2 12 (by omega)⟩)
