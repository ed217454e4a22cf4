/-! ===== rows: all stands; what longer rows there are ===== -/
def tb_ro_openAll : List (Nat × Instr × Nat) := [(0, .aload_n 0, 1), (1, .aload_n 0, 1), (2, .getfield 38, 3), (5, .arraylength, 1), (6, .invokevirtual 89, 3), (9, .aload_n 0, 1), (10, .getfield 25, 3), (13, .ireturn, 1)]
theorem tk_ro_openAll : ∀ q ∈ tb_ro_openAll, decode M_ro_openAll.2.1 q.1 = .ok q.2 := by decide +kernel
theorem c_ro_openAll {G : ab_G} {S : ab_S} (hx : xSh S) (hse : seOk S) (kc : kSh S.1) {im : Nat → Prop} (him : imO im) {x c bh nb st : Nat} {a : Nat → Int32} (hX : x = 84 ∨ x = 94) (hcl : clI S im x c a bh nb st) (ha : aGood a) {r N : Nat} (hO : roK S r N) (hri : ∀ y, r ≤ y → y ≤ r + 7 → ¬ im y) (hrb : bh < r ∨ r + 7 < bh) {k : Nat} (hI : roI S r N x a k) : ab_C G 5 M_ro_openAll [.ref r] (sw S) (fun v w' => ∃ S' k', v = some (.int (nI k')) ∧ w' = sw S' ∧ sEq [x + 5, x + 6, x + 7, x + 8, x + 9, bh, r, r + 1, r + 2, r + 3, r + 4] S S' ∧ clI S' im x c a bh nb st ∧ roI S' r N x a k' ∧ sI S' r 9 = sI S r 9 ∧ sI S' r 14 = sI S r 14 ∧ k ≤ k' ∧ k' = (cL a k').length) := by
  refine x_enter [some (.ref r)] (by decide) (Nat.le_of_ble_eq_true rfl) rfl (fun v w' z => by obtain ⟨S', k', rfl, -⟩ := z; rfl) ?_
  have hN15 : N ≤ 15000 := hO.2.2.2.2.2.2.2.2.2.2.2.2.2.2.2.2.2.2
  have hr145 := hO.1
  refine x_aload_n 1 0 (ab_dd tk_ro_openAll 0 rfl) rfl rfl rfl ?_
  refine x_aload_n 2 0 (ab_dd tk_ro_openAll 1 rfl) rfl rfl rfl ?_
  refine t_getP 5 (r + 1) (ab_dd tk_ro_openAll 2 rfl) rfl F_ro_38 (by have := hO.1; omega) (Nat.lt_of_le_of_lt (Nat.le_add_right r 7) hO.2.1) hO.2.2.1 rfl hO.2.2.2.2.2.2.2.2.2.2.2.1 ?_
  refine t_alen 6 0 (ab_dd tk_ro_openAll 3 rfl) rfl (by have := hO.1; omega) (Nat.lt_of_le_of_lt (Nat.add_le_add_left (by decide) r) hO.2.1) rfl hO.2.2.2.1 ?_
  refine t_callV 9 M_ro_openTo 4 1 [_] (ab_dd tk_ro_openAll 4 rfl) rfl (by first | decide | omega) K_ro_openTo V_ro_openTo.1 V_ro_openTo.2 L_ro_89 rfl (Nat.le_of_ble_eq_true rfl) (by have := hO.1; omega) (Nat.lt_of_le_of_lt (Nat.le_add_right r 7) hO.2.1) hO.2.2.1 rfl (c_ro_openTo hx hse kc him hX hcl ha hO hri hrb hI N (by omega)) (fun v1 w1 h1 => ?_)
  obtain ⟨rfl, S2, k2, rfl, hE2, hcl2, hI2, hn9, hn14, hk12, hT2⟩ := h1
  have hO2 : roK S2 r N := hO.eq hE2
  have hI2b := hI2
  obtain ⟨⟨q1, q2, q3, q4⟩, i2, i3, i4, i5, i6, i7, i8, i9⟩ := hI2b
  have hlen : (cL a k2).length ≤ N := nd_len (bfB_nd k2) (fun c hc => Nat.lt_of_lt_of_le (cL_all ha.1 k2 c hc) i9)
  have hk2 : k2 = (cL a k2).length := by omega
  have q1b : sI S2 r 12 = nI k2 := by rw [q1, ← hk2]
  refine x_aload_n 10 0 (ab_dd tk_ro_openAll 5 rfl) rfl rfl rfl ?_
  refine t_getI 13 (ab_dd tk_ro_openAll 6 rfl) rfl F_ro_25 (by have := hO2.1; omega) (Nat.lt_of_le_of_lt (Nat.le_add_right r 7) hO2.2.1) hO2.2.2.1 rfl (x_topn k2 q1b ?_)
  exact x_iret (ab_dd tk_ro_openAll 7 rfl) ⟨S2, k2, rfl, rfl, hE2, hcl2, hI2, hn9, hn14, hk12, hk2⟩
def tb_ro_lengthen : List (Nat × Instr × Nat) := [(0, .aload_n 0, 1), (1, .getfield 54, 3), (4, .iload_n 1, 1), (5, .aload_n 0, 1), (6, .getfield 54, 3), (9, .iload_n 1, 1), (10, .iaload, 1), (11, .aload_n 0, 1), (12, .getfield 54, 3), (15, .iload_n 2, 1), (16, .iaload, 1), (17, .iconst 1, 1), (18, .iadd, 1), (19, .invokestatic 124, 3), (22, .iastore, 1), (23, .return_, 1)]
theorem tk_ro_lengthen : ∀ q ∈ tb_ro_lengthen, decode M_ro_lengthen.2.1 q.1 = .ok q.2 := by decide +kernel
theorem c_ro_lengthen {G : ab_G} {S : ab_S} {r N : Nat} (hO : roK S r N) (i t p q : Nat) (hi : i < N) (ht : t < N) (hp : p < 2 ^ 30) (hq : q < 2 ^ 30) (ep : sI S (r + 6) i = nI p) (eq : sI S (r + 6) t = nI q) : ab_C G 1 M_ro_lengthen [.ref r, .int (nI i), .int (nI t)] (sw S) (fun v w' => v = none ∧ w' = sw (pI S (r + 6) i (nI (if q + 1 ≤ p then p else q + 1)))) := by
  refine x_enter [some (.ref r), some (.int (nI i)), some (.int (nI t))] (by decide) (Nat.le_of_ble_eq_true rfl) rfl (fun v w' h => by obtain ⟨rfl, rfl⟩ := h; trivial) ?_
  have hN15 : N ≤ 15000 := hO.2.2.2.2.2.2.2.2.2.2.2.2.2.2.2.2.2.2
  have hr145 := hO.1
  refine x_aload_n 1 0 (ab_dd tk_ro_lengthen 0 rfl) rfl rfl rfl ?_
  refine t_getP 4 (r + 6) (ab_dd tk_ro_lengthen 1 rfl) rfl F_ro_54 (by have := hO.1; omega) (Nat.lt_of_le_of_lt (Nat.le_add_right r 7) hO.2.1) hO.2.2.1 rfl hO.2.2.2.2.2.2.2.2.2.2.2.2.2.2.2.2.1 ?_
  refine x_iload_n 5 1 (ab_dd tk_ro_lengthen 2 rfl) rfl rfl rfl ?_
  refine x_aload_n 6 0 (ab_dd tk_ro_lengthen 3 rfl) rfl rfl rfl ?_
  refine t_getP 9 (r + 6) (ab_dd tk_ro_lengthen 4 rfl) rfl F_ro_54 (by have := hO.1; omega) (Nat.lt_of_le_of_lt (Nat.le_add_right r 7) hO.2.1) hO.2.2.1 rfl hO.2.2.2.2.2.2.2.2.2.2.2.2.2.2.2.2.1 ?_
  refine x_iload_n 10 1 (ab_dd tk_ro_lengthen 5 rfl) rfl rfl rfl ?_
  refine t_iald 11 i (ab_dd tk_ro_lengthen 6 rfl) rfl (by have := hO.1; omega) (Nat.lt_of_le_of_lt (Nat.add_le_add_left (by decide) r) hO.2.1) hO.2.2.2.2.2.2.2.2.1 rfl (by omega) (by omega) (x_topn p ep ?_)
  refine x_aload_n 12 0 (ab_dd tk_ro_lengthen 7 rfl) rfl rfl rfl ?_
  refine t_getP 15 (r + 6) (ab_dd tk_ro_lengthen 8 rfl) rfl F_ro_54 (by have := hO.1; omega) (Nat.lt_of_le_of_lt (Nat.le_add_right r 7) hO.2.1) hO.2.2.1 rfl hO.2.2.2.2.2.2.2.2.2.2.2.2.2.2.2.2.1 ?_
  refine x_iload_n 16 2 (ab_dd tk_ro_lengthen 9 rfl) rfl rfl rfl ?_
  refine t_iald 17 t (ab_dd tk_ro_lengthen 10 rfl) rfl (by have := hO.1; omega) (Nat.lt_of_le_of_lt (Nat.add_le_add_left (by decide) r) hO.2.1) hO.2.2.2.2.2.2.2.2.1 rfl (by omega) (by omega) (x_topn q eq ?_)
  refine x_iconst 18 1 (ab_dd tk_ro_lengthen 11 rfl) rfl (by decide) (x_topn 1 rfl ?_)
  refine x_iadd 19 (ab_dd tk_ro_lengthen 12 rfl) rfl (x_topn (q + 1) (nI_add _ _) ?_)
  refine x_callS 22 M_jM_max 0 2 [_, _] (ab_dd tk_ro_lengthen 13 rfl) rfl (by first | decide | omega) K_jM_max T_jM_max L_ro_124 rfl (Nat.le_of_ble_eq_true rfl) (w_max _ p (q + 1) (by omega) (by omega)) (fun v1 w1 h1 => ?_)
  obtain ⟨rfl, rfl⟩ := h1
  refine t_iast 23 i (ab_dd tk_ro_lengthen 14 rfl) rfl (by have := hO.1; omega) (Nat.lt_of_le_of_lt (Nat.add_le_add_left (by decide) r) hO.2.1) hO.2.2.2.2.2.2.2.2.1 rfl (by omega) (by omega) ?_
  exact x_vret (ab_dd tk_ro_lengthen 15 rfl) ⟨rfl, rfl⟩
