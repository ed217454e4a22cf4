def tb_ro_begin : List (Nat × Instr × Nat) := [(0, .aload_n 0, 1), (1, .getstatic 60, 3), (4, .aload_n 1, 1), (5, .getfield 63, 3), (8, .getfield 69, 3), (11, .iaload, 1), (12, .putfield 19, 3), (15, .iload_n 3, 1), (16, .aload_n 0, 1), (17, .getfield 19, 3), (20, .imul, 1), (21, .iload_n 2, 1), (22, .iadd, 1), (23, .istore 4, 2), (25, .aload_n 1, 1), (26, .getfield 72, 3), (29, .aload_n 0, 1), (30, .getfield 15, 3), (33, .if_icmp .ne 22, 3), (36, .aload_n 0, 1), (37, .getfield 25, 3), (40, .ifCond .le 15, 3), (43, .aload_n 0, 1), (44, .getfield 38, 3), (47, .iconst 0, 1), (48, .iaload, 1), (49, .iload 4, 2), (51, .if_icmp .ne 4, 3), (54, .return_, 1), (55, .aload_n 0, 1), (56, .aload_n 1, 1), (57, .putfield 9, 3), (60, .aload_n 0, 1), (61, .aload_n 1, 1), (62, .getfield 72, 3), (65, .putfield 15, 3), (68, .aload_n 0, 1), (69, .aload_n 1, 1), (70, .getfield 63, 3), (73, .getfield 69, 3), (76, .putfield 22, 3), (79, .aload_n 0, 1), (80, .iconst 0, 1), (81, .putfield 25, 3), (84, .aload_n 0, 1), (85, .iconst 0, 1), (86, .putfield 28, 3), (89, .aload_n 0, 1), (90, .dup, 1), (91, .getfield 31, 3), (94, .iconst 1, 1), (95, .iadd, 1), (96, .putfield 31, 3), (99, .aload_n 0, 1), (100, .iload 4, 2), (102, .iconst (-1), 1), (103, .invokevirtual 73, 3), (106, .pop, 1), (107, .return_, 1)]
theorem tk_ro_begin : ∀ q ∈ tb_ro_begin, decode M_ro_begin.2.1 q.1 = .ok q.2 := by decide +kernel
theorem c_ro_begin2 {G : ab_G} {S : ab_S} {im : Nat → Prop} {x c bh nb st : Nat} {a : Nat → Int32} (hX : x = 84 ∨ x = 94) {r N : Nat} (hri : ∀ y, r ≤ y → y ≤ r + 7 → ¬ im y) (hrb : bh < r ∨ r + 7 < bh) (ha : aGood a) (hN : kFc (aR a) * 5 ^ aR a ≤ N) (S2 : ab_S) (hE : rEq r [r, r + 1, r + 2, r + 3] S S2) (hK : clK S2 x) (hO : roK S2 r N) (hcl : clI S2 im x c a bh nb st) (hp8 : sP S2 r 8 = some x) (h10 : sI S2 r 10 = nI (5 ^ aR a)) (hso : ∀ v, v < N → ∃ e, sI S2 (r + 2) v = nI e ∧ e < 15000) : ab_Ex G 1 M_ro_begin 60 [some (.ref r), some (.ref x), some (.int (nI (aW a))), some (.int (nI (aQ a))), some (.int (nI (aQ a * 5 ^ aR a + aW a)))] [] (sw S2) (fun v w' => v = none ∧ ∃ S' k, w' = sw S' ∧ rEq r [r, r + 1, r + 2, r + 3] S S' ∧ clI S' im x c a bh nb st ∧ roI S' r N x a k ∧ sI S' r 9 = nI st) := by
  have hN15 : N ≤ 15000 := hO.2.2.2.2.2.2.2.2.2.2.2.2.2.2.2.2.2.2
  have hr145 := hO.1
  have hcl0 := hcl
  obtain ⟨a1, a2, a3, a4, a5, a6, a7, a8, a9, a10, a11, a12, b1, b2, b3⟩ := hcl0
  have hk := a1.1
  have c1 := a1.2.1
  have hvc : vC a (aQ a * 5 ^ aR a + aW a) := (vC_mk (rowT_in ha.1).1 (rowT_in ha.1).2.1).1
  unfold vC at hvc
  have hcr : c ≠ r := fun z => hri r (Nat.le_refl _) (Nat.le_add_right _ _) (z ▸ hk.2.2.2.2.2.2.2.1)
  refine x_aload_n 61 0 (ab_dd tk_ro_begin 32 rfl) rfl rfl rfl ?_
  refine x_aload_n 62 1 (ab_dd tk_ro_begin 33 rfl) rfl rfl rfl ?_
  refine t_getI 65 (ab_dd tk_ro_begin 34 rfl) rfl F_ro_72 (by rcases hK.1 with z | z <;> omega) (Nat.lt_of_le_of_lt (Nat.le_add_right x 9) hK.2.1) hK.2.2.1 rfl (x_topn st a5 ?_)
  refine t_putI 68 (ab_dd tk_ro_begin 35 rfl) rfl F_ro_15 (by have := hO.1; omega) (Nat.lt_of_le_of_lt (Nat.le_add_right r 7) hO.2.1) hO.2.2.1 rfl rfl rfl ?_
  refine x_aload_n 69 0 (ab_dd tk_ro_begin 36 rfl) rfl rfl rfl ?_
  refine x_aload_n 70 1 (ab_dd tk_ro_begin 37 rfl) rfl rfl rfl ?_
  refine t_getP 73 c (ab_dd tk_ro_begin 38 rfl) rfl F_ro_63 (by rcases hK.1 with z | z <;> omega) (Nat.lt_of_le_of_lt (Nat.le_add_right x 9) hK.2.1) hK.2.2.1 rfl a2 ?_
  refine t_getI 76 (ab_dd tk_ro_begin 39 rfl) rfl F_ro_69 hk.1 (Nat.lt_of_le_of_lt (Nat.le_add_right c 2) hk.2.1) hk.2.2.1 rfl (x_topn (aR a) ((gI_a (by omega)).trans c1) ?_)
  refine t_putI 79 (ab_dd tk_ro_begin 40 rfl) rfl F_ro_22 (by have := hO.1; omega) (Nat.lt_of_le_of_lt (Nat.le_add_right r 7) hO.2.1) hO.2.2.1 rfl rfl rfl ?_
  refine x_aload_n 80 0 (ab_dd tk_ro_begin 41 rfl) rfl rfl rfl ?_
  refine x_iconst 81 0 (ab_dd tk_ro_begin 42 rfl) rfl (by decide) (x_topn 0 rfl ?_)
  refine t_putI 84 (ab_dd tk_ro_begin 43 rfl) rfl F_ro_25 (by have := hO.1; omega) (Nat.lt_of_le_of_lt (Nat.le_add_right r 7) hO.2.1) hO.2.2.1 rfl rfl rfl ?_
  refine x_aload_n 85 0 (ab_dd tk_ro_begin 44 rfl) rfl rfl rfl ?_
  refine x_iconst 86 0 (ab_dd tk_ro_begin 45 rfl) rfl (by decide) (x_topn 0 rfl ?_)
  refine t_putI 89 (ab_dd tk_ro_begin 46 rfl) rfl F_ro_28 (by have := hO.1; omega) (Nat.lt_of_le_of_lt (Nat.le_add_right r 7) hO.2.1) hO.2.2.1 rfl rfl rfl ?_
  refine x_aload_n 90 0 (ab_dd tk_ro_begin 47 rfl) rfl rfl rfl ?_
  refine x_dup 91 (ab_dd tk_ro_begin 48 rfl) rfl rfl ?_
  refine t_getI 94 (ab_dd tk_ro_begin 49 rfl) rfl F_ro_31 (by have := hO.1; omega) (Nat.lt_of_le_of_lt (Nat.le_add_right r 7) hO.2.1) hO.2.2.1 rfl ?_
  refine x_iconst 95 1 (ab_dd tk_ro_begin 50 rfl) rfl (by decide) (x_topn 1 rfl ?_)
  refine x_iadd 96 (ab_dd tk_ro_begin 51 rfl) rfl ?_
  refine t_putI 99 (ab_dd tk_ro_begin 52 rfl) rfl F_ro_31 (by have := hO.1; omega) (Nat.lt_of_le_of_lt (Nat.le_add_right r 7) hO.2.1) hO.2.2.1 rfl rfl rfl ?_
  refine x_aload_n 100 0 (ab_dd tk_ro_begin 53 rfl) rfl rfl rfl ?_
  refine x_iload 102 4 (ab_dd tk_ro_begin 54 rfl) rfl rfl ?_
  refine x_iconst 103 (-1) (ab_dd tk_ro_begin 55 rfl) rfl (by decide) ?_
  refine t_callV 106 M_ro_standWith 0 2 [_, _] (ab_dd tk_ro_begin 56 rfl) rfl (by first | decide | omega) K_ro_standWith V_ro_standWith.1 V_ro_standWith.2 L_ro_73 rfl (Nat.le_of_ble_eq_true rfl) (by have := hO.1; omega) (Nat.lt_of_le_of_lt (Nat.le_add_right r 7) hO.2.1) hO.2.2.1 rfl (c_ro_standWith (L := []) (by exact hO) (by exact ⟨(gI_k (by decide)).trans ((gI_k (by decide)).trans gI_s), fun i hi => absurd hi (Nat.not_lt_zero i), fun i hi => absurd hi (Nat.not_lt_zero i), fun v hv => by obtain ⟨e, e1, e2⟩ := hso v hv; exact ⟨e, by rw [gI_o (by omega), gI_o (by omega), gI_o (by omega), gI_o (by omega), gI_o (by omega)]; exact e1, e2⟩⟩) List.nodup_nil (fun c hc => absurd hc List.not_mem_nil) (aQ a * 5 ^ aR a + aW a) (by omega) (-1)) (fun v1 w1 h1 => ?_)
  obtain ⟨rfl, S4, rfl, hE4, hL4, hj4, hf4, hn4⟩ := h1
  refine x_pop 107 (ab_dd tk_ro_begin 57 rfl) rfl rfl ?_
  have hm : r ∈ [r, r + 1, r + 2, r + 3] := List.Mem.head _
  have hE5 : sEq [r, r + 1, r + 2, r + 3] S2 S4 := (((((sEq.rf.pI hm).pI hm).pI hm).pI hm).pI hm).tr hE4
  have hb : bfA [] (aQ a * 5 ^ aR a + aW a) = cL a 0 := (bfA_new List.not_mem_nil).1
  rw [hb] at hL4
  have q9 : sI S4 r 9 = nI st := (hj4 9 (by decide)).trans ((gI_k (by decide)).trans ((gI_k (by decide)).trans ((gI_k (by decide)).trans ((gI_k (by decide)).trans gI_s))))
  have q11 : sI S4 r 11 = nI (aR a) := (hj4 11 (by decide)).trans ((gI_k (by decide)).trans ((gI_k (by decide)).trans ((gI_k (by decide)).trans gI_s)))
  have q13 : sI S4 r 13 = nI 0 := (hj4 13 (by decide)).trans ((gI_k (by decide)).trans gI_s)
  have q10 : sI S4 r 10 = nI (5 ^ aR a) := (hj4 10 (by decide)).trans ((gI_k (by decide)).trans ((gI_k (by decide)).trans ((gI_k (by decide)).trans ((gI_k (by decide)).trans ((gI_k (by decide)).trans h10)))))
  exact x_vret (ab_dd tk_ro_begin 58 rfl) ⟨rfl, S4, 0, rfl, hE.tr (rEq.of hE5), hcl.eq hE5 (by simp only [List.mem_cons, List.not_mem_nil, or_false, not_or]; omega) (fun u hu => hri u (by simp only [List.mem_cons, List.not_mem_nil, or_false] at hu; omega) (by simp only [List.mem_cons, List.not_mem_nil, or_false] at hu; omega)) (by simp only [List.mem_cons, List.not_mem_nil, or_false, not_or]; omega) (by simp only [List.mem_cons, List.not_mem_nil, or_false, not_or]; omega) (by simp only [List.mem_cons, List.not_mem_nil, or_false, not_or]; omega), ⟨hL4, Nat.zero_le _, q13, q10, q11, by rw [hE5.2.2.2.2.1]; exact hp8, ⟨hn4 List.not_mem_nil, fun i h1 h2 => absurd (show i < 1 from h2) (by omega)⟩, fun i d h1 _ => absurd h1 (Nat.not_lt_zero i), hN⟩, q9⟩
