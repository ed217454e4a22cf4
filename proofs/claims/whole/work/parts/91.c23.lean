/-! ===== rows: how many rows of n stops ===== -/
def tb_ro_howManyWarm : List (Nat × Instr × Nat) := [(0, .aload_n 0, 1), (1, .getfield 51, 3), (4, .astore_n 3, 1), (5, .aload_n 0, 1), (6, .getfield 54, 3), (9, .astore 4, 2), (11, .aload_n 3, 1), (12, .iconst 0, 1), (13, .invokestatic 110, 3), (16, .aload 4, 2), (18, .iconst 0, 1), (19, .invokestatic 110, 3), (22, .aload_n 3, 1), (23, .iconst 0, 1), (24, .iconst 1, 1), (25, .iastore, 1), (26, .iconst 0, 1), (27, .istore 5, 2), (29, .iload 5, 2), (31, .iload_n 2, 1), (32, .if_icmp .ge 71, 3), (35, .aload_n 0, 1), (36, .getfield 25, 3), (39, .istore 6, 2), (41, .iconst 0, 1), (42, .istore 7, 2), (44, .iload 7, 2), (46, .iload 6, 2), (48, .if_icmp .ge 39, 3), (51, .aload_n 3, 1), (52, .iload 7, 2), (54, .iaload, 1), (55, .ifCond .eq 26, 3), (58, .aload_n 0, 1), (59, .iload 7, 2), (61, .invokevirtual 89, 3), (64, .aload_n 0, 1), (65, .iload 7, 2), (67, .aload_n 3, 1), (68, .iload 7, 2), (70, .iaload, 1), (71, .aload 4, 2), (73, .invokevirtual 116, 3), (76, .aload_n 3, 1), (77, .iload 7, 2), (79, .iconst 0, 1), (80, .iastore, 1), (81, .iinc 7 1, 3), (84, .goto (-40), 3), (87, .aload_n 3, 1), (88, .astore 7, 2), (90, .aload 4, 2), (92, .astore_n 3, 1), (93, .aload 7, 2), (95, .astore 4, 2), (97, .iinc 5 1, 3), (100, .goto (-71), 3), (103, .lconst 0, 1), (104, .lstore 5, 2), (106, .iconst 0, 1), (107, .istore 7, 2), (109, .iload 7, 2), (111, .aload_n 0, 1), (112, .getfield 25, 3), (115, .if_icmp .ge 36, 3), (118, .aload_n 3, 1), (119, .iload 7, 2), (121, .iaload, 1), (122, .ifCond .eq 23, 3), (125, .aload_n 0, 1), (126, .iload 7, 2), (128, .iload_n 1, 1), (129, .invokevirtual 100, 3), (132, .ifCond .eq 13, 3), (135, .lload 5, 2), (137, .aload_n 3, 1), (138, .iload 7, 2), (140, .iaload, 1), (141, .i2l, 1), (142, .ladd, 1), (143, .lstore 5, 2), (145, .iinc 7 1, 3), (148, .goto (-39), 3), (151, .lload 5, 2), (153, .lreturn, 1)]
theorem tk_ro_howManyWarm : ∀ q ∈ tb_ro_howManyWarm, decode M_ro_howManyWarm.2.1 q.1 = .ok q.2 := by decide +kernel
theorem c_ro_howManyWarm {G : ab_G} {S : ab_S} (hx : xSh S) (hse : seOk S) (kc : kSh S.1) {im : Nat → Prop} (him : imO im) {x c bh nb st : Nat} {a : Nat → Int32} (hX : x = 84 ∨ x = 94) (hcl : clI S im x c a bh nb st) (ha : aGood a) {r N : Nat} (hO : roK S r N) (hri : ∀ y, r ≤ y → y ≤ r + 7 → ¬ im y) (hrb : bh < r ∨ r + 7 < bh) {k : Nat} (hI : roI S r N x a k) {T : Nat} (hT : (cL a T).length = T) (h n : Nat) (hh : h < 2 ^ 31) (hn : n ≤ 12) : ab_C G 5 M_ro_howManyWarm [.ref r, .int (nI h), .int (nI n)] (sw S) (fun v w' => ∃ S' k', v = some (.long (lN ((gT (gI a T) (gWb a T h) n) 0))) ∧ w' = sw S' ∧ sEq [x + 5, x + 6, x + 7, x + 8, x + 9, bh, r, r + 1, r + 2, r + 3, r + 4, r + 5, r + 6] S S' ∧ clI S' im x c a bh nb st ∧ roI S' r N x a k' ∧ sI S' r 9 = sI S r 9 ∧ sI S' r 14 = sI S r 14 ∧ k ≤ k') := by
  refine x_enter [some (.ref r), some (.int (nI h)), some (.int (nI n)), none, none, none, none, none] (by decide) (Nat.le_of_ble_eq_true rfl) rfl (fun v w' z => by obtain ⟨S', k', rfl, -⟩ := z; trivial) ?_
  have hN15 : N ≤ 15000 := hO.2.2.2.2.2.2.2.2.2.2.2.2.2.2.2.2.2.2
  have hr145 := hO.1
  have hcl0 := hcl
  obtain ⟨-, -, -, -, -, -, -, -, -, -, hnb, hbh, -⟩ := hcl0
  have p12 : ∀ m, m ≤ 12 → 4 ^ m ≤ 16777216 := fun m hm => Nat.le_trans (Nat.pow_le_pow_right (by decide) hm) (by decide)
  have fin : ∀ (b1 b2 : Nat) (f : Nat → Nat) (S1 : ab_S) (k1 : Nat), (b1 = r + 5 ∧ b2 = r + 6 ∨ b1 = r + 6 ∧ b2 = r + 5) → sEq [x + 5, x + 6, x + 7, x + 8, x + 9, bh, r, r + 1, r + 2, r + 3, r + 4, r + 5, r + 6] S S1 → clI S1 im x c a bh nb st → roI S1 r N x a k1 → sI S1 r 9 = sI S r 9 → sI S1 r 14 = sI S r 14 → k ≤ k1 → (∀ j, j < N → sI S1 b1 j = nI (f j)) → (∀ j, (cL a k1).length ≤ j → f j = 0) → sumF f T ≤ 16777216 → sumW f (gT (gI a T) (gWb a T h) 0) T = (gT (gI a T) (gWb a T h) n) 0 → ∀ (m j : Nat), j + m = (cL a k1).length → ab_Ex G 5 M_ro_howManyWarm 109 [some (.ref r), some (.int (nI h)), some (.int (nI n)), some (.ref b1), some (.ref b2), some (.long (lN (sumW f (gT (gI a T) (gWb a T h) 0) j))), none, some (.int (nI j))] [] (sw S1) (fun v w' => ∃ S' k', v = some (.long (lN ((gT (gI a T) (gWb a T h) n) 0))) ∧ w' = sw S' ∧ sEq [x + 5, x + 6, x + 7, x + 8, x + 9, bh, r, r + 1, r + 2, r + 3, r + 4, r + 5, r + 6] S S' ∧ clI S' im x c a bh nb st ∧ roI S' r N x a k' ∧ sI S' r 9 = sI S r 9 ∧ sI S' r 14 = sI S r 14 ∧ k ≤ k') := by
    intro b1 b2 f S1 k1 hb hE1 hcl1 hI1 h9 h14 hkk hf hf0 hF hW m
    have hO1 : roK S1 r N := hO.eq hE1
    have hI1b := hI1
    obtain ⟨⟨q1, q2, q3, q4⟩, i2, i3, i4, i5, i6, i7, i8, i9⟩ := hI1b
    have hlen : (cL a k1).length ≤ N := nd_len (bfB_nd k1) (fun c hc => Nat.lt_of_lt_of_le (cL_all ha.1 k1 c hc) i9)
    have hlT := (cL_pre hT i2).len
    have hb1n : b1 < sn S1 := by have := hO1.2.1; omega
    have hb1k : sK S1 b1 = .inl (.int, N) := by
      rcases hb with z | z
      · rw [z.1]; exact hO1.2.2.2.2.2.2.2.1
      · rw [z.1]; exact hO1.2.2.2.2.2.2.2.2.1
    have hend : sumW f (gT (gI a T) (gWb a T h) 0) (cL a k1).length = (gT (gI a T) (gWb a T h) n) 0 := by
      rw [← hW]
      have ext : ∀ q, sumW f (gT (gI a T) (gWb a T h) 0) ((cL a k1).length + q) = sumW f (gT (gI a T) (gWb a T h) 0) (cL a k1).length := by
        intro q
        induction q with
        | zero => rfl
        | succ q ih =>
          show sumW f (gT (gI a T) (gWb a T h) 0) ((cL a k1).length + q) + f ((cL a k1).length + q) * _ = _
          rw [hf0 _ (by omega), Nat.zero_mul, ih]; rfl
      have e := ext (T - (cL a k1).length)
      rw [show (cL a k1).length + (T - (cL a k1).length) = T by omega] at e
      exact e.symm
    induction m with
    | zero =>
      intro j hj
      have hj2 : j = (cL a k1).length := by omega
      refine x_iload 111 7 (ab_dd tk_ro_howManyWarm 61 rfl) rfl rfl ?_
      refine x_aload_n 112 0 (ab_dd tk_ro_howManyWarm 62 rfl) rfl rfl rfl ?_
      refine t_getI 115 (ab_dd tk_ro_howManyWarm 63 rfl) rfl F_ro_25 (by have := hO1.1; omega) (Nat.lt_of_le_of_lt (Nat.le_add_right r 7) hO1.2.1) hO1.2.2.1 rfl (x_topn ((cL a k1).length) q1 ?_)
      refine x_icmp_ge_t 151 (ab_dd tk_ro_howManyWarm 64 rfl) (by decide) ((nI_leI (a := ((cL a k1).length)) (b := j) (by omega) (by omega)).mpr (show ((cL a k1).length) ≤ j by omega)) ?_
      refine x_lload 153 5 (ab_dd tk_ro_howManyWarm 83 rfl) rfl rfl ?_
      exact x_lret (ab_dd tk_ro_howManyWarm 84 rfl) ⟨S1, k1, by rw [← hend, hj2], rfl, hE1, hcl1, hI1, h9, h14, hkk⟩
    | succ m ih =>
      intro j hj
      have hfj : f j ≤ 16777216 := Nat.le_trans (sumF_ge (f := f) T j (by omega)) hF
      refine x_iload 111 7 (ab_dd tk_ro_howManyWarm 61 rfl) rfl rfl ?_
      refine x_aload_n 112 0 (ab_dd tk_ro_howManyWarm 62 rfl) rfl rfl rfl ?_
      refine t_getI 115 (ab_dd tk_ro_howManyWarm 63 rfl) rfl F_ro_25 (by have := hO1.1; omega) (Nat.lt_of_le_of_lt (Nat.le_add_right r 7) hO1.2.1) hO1.2.2.1 rfl (x_topn ((cL a k1).length) q1 ?_)
      refine x_icmp_ge_f 118 (ab_dd tk_ro_howManyWarm 64 rfl) rfl 151 (by decide) (fun z => absurd ((nI_leI (a := ((cL a k1).length)) (b := j) (by omega) (by omega)).mp z) (show ¬ (((cL a k1).length) ≤ j) by omega)) ?_
      refine x_aload_n 119 3 (ab_dd tk_ro_howManyWarm 65 rfl) rfl rfl rfl ?_
      refine x_iload 121 7 (ab_dd tk_ro_howManyWarm 66 rfl) rfl rfl ?_
      refine t_iald 122 j (ab_dd tk_ro_howManyWarm 67 rfl) rfl (by omega) hb1n hb1k rfl (by omega) (by omega) (x_topn (f j) (hf j (by omega)) ?_)
      refine xn_if_eq 125 145 (ab_dd tk_ro_howManyWarm 68 rfl) rfl (by decide) (by omega) (fun h122 => ?_) (fun h122 => ?_)
      · refine xn_iinc 148 7 (fun y => [some (.ref r), some (.int (nI h)), some (.int (nI n)), some (.ref b1), some (.ref b2), some (.long (lN (sumW f (gT (gI a T) (gWb a T h) 0) j))), none, some (.int y)]) (j + 1) (ab_dd tk_ro_howManyWarm 81 rfl) rfl (by decide) rfl (fun _ => rfl) (iinc_p 1) ?_
        refine x_goto 109 (ab_dd tk_ro_howManyWarm 82 rfl) (by decide) ?_
        have e : sumW f (gT (gI a T) (gWb a T h) 0) (j + 1) = sumW f (gT (gI a T) (gWb a T h) 0) j := by
          show sumW f (gT (gI a T) (gWb a T h) 0) j + f j * (gT (gI a T) (gWb a T h) 0) j = _
          rw [h122, Nat.zero_mul]; rfl
        have g := ih (j + 1) (by omega)
        rw [e] at g
        exact g
      · refine x_aload_n 126 0 (ab_dd tk_ro_howManyWarm 69 rfl) rfl rfl rfl ?_
        refine x_iload 128 7 (ab_dd tk_ro_howManyWarm 70 rfl) rfl rfl ?_
        refine x_iload_n 129 1 (ab_dd tk_ro_howManyWarm 71 rfl) rfl rfl rfl ?_
        refine t_callV 132 M_ro_isWarm 2 2 [_, _] (ab_dd tk_ro_howManyWarm 72 rfl) rfl (by first | decide | omega) K_ro_isWarm V_ro_isWarm.1 V_ro_isWarm.2 L_ro_100 rfl (Nat.le_of_ble_eq_true rfl) (by have := hO1.1; omega) (Nat.lt_of_le_of_lt (Nat.le_add_right r 7) hO1.2.1) hO1.2.2.1 rfl (c_ro_isWarm hO1 ha.1 hI1 j h (by omega) hh) (fun v1 w1 h1 => ?_)
        obtain ⟨rfl, rfl⟩ := h1
        refine xb_if_eq 135 145 (ab_dd tk_ro_howManyWarm 73 rfl) rfl (by decide) (fun h132 => ?_) (fun h132 => ?_)
        · refine xn_iinc 148 7 (fun y => [some (.ref r), some (.int (nI h)), some (.int (nI n)), some (.ref b1), some (.ref b2), some (.long (lN (sumW f (gT (gI a T) (gWb a T h) 0) j))), none, some (.int y)]) (j + 1) (ab_dd tk_ro_howManyWarm 81 rfl) rfl (by decide) rfl (fun _ => rfl) (iinc_p 1) ?_
          refine x_goto 109 (ab_dd tk_ro_howManyWarm 82 rfl) (by decide) ?_
          have e : sumW f (gT (gI a T) (gWb a T h) 0) (j + 1) = sumW f (gT (gI a T) (gWb a T h) 0) j := by
            show sumW f (gT (gI a T) (gWb a T h) 0) j + f j * (gT (gI a T) (gWb a T h) 0) j = _
            rw [show (gT (gI a T) (gWb a T h) 0) j = 0 from if_neg (by unfold gWb; rw [decide_eq_true_iff, gC_le ha.1 hT (show j < T by omega), cWm_pre hT i2 (show j < (cL a k1).length by omega)]; exact h132), Nat.mul_zero]; rfl
          have g := ih (j + 1) (by omega)
          rw [e] at g
          exact g
        · refine x_lload 137 5 (ab_dd tk_ro_howManyWarm 74 rfl) rfl rfl ?_
          refine x_aload_n 138 3 (ab_dd tk_ro_howManyWarm 75 rfl) rfl rfl rfl ?_
          refine x_iload 140 7 (ab_dd tk_ro_howManyWarm 76 rfl) rfl rfl ?_
          refine t_iald 141 j (ab_dd tk_ro_howManyWarm 77 rfl) rfl (by omega) hb1n hb1k rfl (by omega) (by omega) (x_topn (f j) (hf j (by omega)) ?_)
          refine x_i2l 142 (ab_dd tk_ro_howManyWarm 78 rfl) rfl (x_topL (lN (f j)) (nI_l (by omega)) ?_)
          refine x_ladd 143 (ab_dd tk_ro_howManyWarm 79 rfl) rfl (x_topL (lN ((sumW f (gT (gI a T) (gWb a T h) 0) j) + f j)) (lN_add _ _) ?_)
          refine x_lstore 145 [some (.ref r), some (.int (nI h)), some (.int (nI n)), some (.ref b1), some (.ref b2), some (.long (lN ((sumW f (gT (gI a T) (gWb a T h) 0) j) + f j))), none, some (.int (nI j))] 5 (ab_dd tk_ro_howManyWarm 80 rfl) rfl (by decide) rfl ?_
          refine xn_iinc 148 7 (fun y => [some (.ref r), some (.int (nI h)), some (.int (nI n)), some (.ref b1), some (.ref b2), some (.long (lN ((sumW f (gT (gI a T) (gWb a T h) 0) j) + f j))), none, some (.int y)]) (j + 1) (ab_dd tk_ro_howManyWarm 81 rfl) rfl (by decide) rfl (fun _ => rfl) (iinc_p 1) ?_
          refine x_goto 109 (ab_dd tk_ro_howManyWarm 82 rfl) (by decide) ?_
          have e : sumW f (gT (gI a T) (gWb a T h) 0) (j + 1) = sumW f (gT (gI a T) (gWb a T h) 0) j + f j := by
            show sumW f (gT (gI a T) (gWb a T h) 0) j + f j * (gT (gI a T) (gWb a T h) 0) j = _
            rw [show (gT (gI a T) (gWb a T h) 0) j = 1 from if_pos (by unfold gWb; rw [decide_eq_true_iff, gC_le ha.1 hT (show j < T by omega), cWm_pre hT i2 (show j < (cL a k1).length by omega)]; exact h132), Nat.mul_one]
          have g := ih (j + 1) (by omega)
          rw [e] at g
          exact g
  have outer : ∀ (q m : Nat), m + q = n → ∀ (b1 b2 : Nat) (f : Nat → Nat) (S1 : ab_S) (k1 : Nat) (y6 y7 : Option Value), (b1 = r + 5 ∧ b2 = r + 6 ∨ b1 = r + 6 ∧ b2 = r + 5) → sEq [x + 5, x + 6, x + 7, x + 8, x + 9, bh, r, r + 1, r + 2, r + 3, r + 4, r + 5, r + 6] S S1 → clI S1 im x c a bh nb st → roI S1 r N x a k1 → sI S1 r 9 = sI S r 9 → sI S1 r 14 = sI S r 14 → k ≤ k1 → (∀ j, j < N → sI S1 b1 j = nI (f j)) → (∀ j, j < N → sI S1 b2 j = nI 0) → (∀ j, (cL a k1).length ≤ j → f j = 0) → sumF f T ≤ 4 ^ m → sumW f (gT (gI a T) (gWb a T h) q) T = (gT (gI a T) (gWb a T h) n) 0 → ab_Ex G 5 M_ro_howManyWarm 29 [some (.ref r), some (.int (nI h)), some (.int (nI n)), some (.ref b1), some (.ref b2), some (.int (nI m)), y6, y7] [] (sw S1) (fun v w' => ∃ S' k', v = some (.long (lN ((gT (gI a T) (gWb a T h) n) 0))) ∧ w' = sw S' ∧ sEq [x + 5, x + 6, x + 7, x + 8, x + 9, bh, r, r + 1, r + 2, r + 3, r + 4, r + 5, r + 6] S S' ∧ clI S' im x c a bh nb st ∧ roI S' r N x a k' ∧ sI S' r 9 = sI S r 9 ∧ sI S' r 14 = sI S r 14 ∧ k ≤ k') := by
    intro q
    induction q with
    | zero =>
      intro m hm b1 b2 f S1 k1 y6 y7 hb hE1 hcl1 hI1 h9 h14 hkk hf hz hf0 hF hW
      refine x_forget 6 (x_forget 7 ?_)
      have hp := p12 m (by omega)
      have hO1 : roK S1 r N := hO.eq hE1
      have hI1b := hI1
      obtain ⟨⟨q1, q2, q3, q4⟩, i2, i3, i4, i5, i6, i7, i8, i9⟩ := hI1b
      have hlen : (cL a k1).length ≤ N := nd_len (bfB_nd k1) (fun c hc => Nat.lt_of_lt_of_le (cL_all ha.1 k1 c hc) i9)
      have hlT := (cL_pre hT i2).len
      have hb1n : b1 < sn S1 := by have := hO1.2.1; omega
      have hb1k : sK S1 b1 = .inl (.int, N) := by
        rcases hb with z | z
        · rw [z.1]; exact hO1.2.2.2.2.2.2.2.1
        · rw [z.1]; exact hO1.2.2.2.2.2.2.2.2.1
      refine x_iload 31 5 (ab_dd tk_ro_howManyWarm 18 rfl) rfl rfl ?_
      refine x_iload_n 32 2 (ab_dd tk_ro_howManyWarm 19 rfl) rfl rfl rfl ?_
      refine x_icmp_ge_t 103 (ab_dd tk_ro_howManyWarm 20 rfl) (by decide) ((nI_leI (a := n) (b := m) (by omega) (by omega)).mpr (show n ≤ m by omega)) ?_
      refine x_lconst 104 0 (ab_dd tk_ro_howManyWarm 57 rfl) rfl (by decide) (x_topL (lN 0) rfl ?_)
      refine x_lstore 106 [some (.ref r), some (.int (nI h)), some (.int (nI n)), some (.ref b1), some (.ref b2), some (.long (lN 0)), none, none] 5 (ab_dd tk_ro_howManyWarm 58 rfl) rfl (by decide) rfl ?_
      refine x_iconst 107 0 (ab_dd tk_ro_howManyWarm 59 rfl) rfl (by decide) (x_topn 0 rfl ?_)
      refine x_istore 109 [some (.ref r), some (.int (nI h)), some (.int (nI n)), some (.ref b1), some (.ref b2), some (.long (lN 0)), none, some (.int (nI 0))] 7 (ab_dd tk_ro_howManyWarm 60 rfl) rfl (by decide) rfl ?_
      exact fin b1 b2 f S1 k1 hb hE1 hcl1 hI1 h9 h14 hkk hf hf0 (by omega) hW (cL a k1).length 0 (by omega)
    | succ q ih =>
      intro m hm b1 b2 f0 S0 k0 y6 y7 hb hE0 hcl00 hI0 h90 h140 hkk0 hf0a hz0 hf00 hF0 hW0
      refine x_forget 6 (x_forget 7 ?_)
      have inner : ∀ (wd z s : Nat), s + z = wd → ∀ (f f' : Nat → Nat) (S1 : ab_S) (k1 : Nat), sEq [x + 5, x + 6, x + 7, x + 8, x + 9, bh, r, r + 1, r + 2, r + 3, r + 4, r + 5, r + 6] S S1 → clI S1 im x c a bh nb st → roI S1 r N x a k1 → sI S1 r 9 = sI S r 9 → sI S1 r 14 = sI S r 14 → k ≤ k1 → (∀ j, j < N → sI S1 b1 j = nI (f j)) → (∀ j, j < N → sI S1 b2 j = nI (f' j)) → wd ≤ (cL a k1).length → (∀ j, j < s → f j = 0) → (∀ j, wd ≤ j → f j = 0) → (∀ j, (cL a k1).length ≤ j → f' j = 0) → 4 * sumF f T + sumF f' T ≤ 4 ^ (m + 1) → sumW f (gT (gI a T) (gWb a T h) (q + 1)) T + sumW f' (gT (gI a T) (gWb a T h) q) T = (gT (gI a T) (gWb a T h) n) 0 → ab_Ex G 5 M_ro_howManyWarm 44 [some (.ref r), some (.int (nI h)), some (.int (nI n)), some (.ref b1), some (.ref b2), some (.int (nI m)), some (.int (nI wd)), some (.int (nI s))] [] (sw S1) (fun v w' => ∃ S' k', v = some (.long (lN ((gT (gI a T) (gWb a T h) n) 0))) ∧ w' = sw S' ∧ sEq [x + 5, x + 6, x + 7, x + 8, x + 9, bh, r, r + 1, r + 2, r + 3, r + 4, r + 5, r + 6] S S' ∧ clI S' im x c a bh nb st ∧ roI S' r N x a k' ∧ sI S' r 9 = sI S r 9 ∧ sI S' r 14 = sI S r 14 ∧ k ≤ k') := by
        intro wd z
        induction z with
        | zero =>
          intro s hs f f' S1 k1 hE1 hcl1 hI1 h9 h14 hkk hf hf' hwd hlo hhi hf0' hF hW
          have fz : ∀ j, f j = 0 := fun j => by
            by_cases y : j < s
            · exact hlo j y
            · exact hhi j (by omega)
          have hO1 : roK S1 r N := hO.eq hE1
          have hI1b := hI1
          obtain ⟨⟨q1, q2, q3, q4⟩, i2, i3, i4, i5, i6, i7, i8, i9⟩ := hI1b
          have hlen : (cL a k1).length ≤ N := nd_len (bfB_nd k1) (fun c hc => Nat.lt_of_lt_of_le (cL_all ha.1 k1 c hc) i9)
          have hlT := (cL_pre hT i2).len
          have hb1n : b1 < sn S1 := by have := hO1.2.1; omega
          have hb1k : sK S1 b1 = .inl (.int, N) := by
            rcases hb with z | z
            · rw [z.1]; exact hO1.2.2.2.2.2.2.2.1
            · rw [z.1]; exact hO1.2.2.2.2.2.2.2.2.1
          refine x_iload 46 7 (ab_dd tk_ro_howManyWarm 26 rfl) rfl rfl ?_
          refine x_iload 48 6 (ab_dd tk_ro_howManyWarm 27 rfl) rfl rfl ?_
          refine x_icmp_ge_t 87 (ab_dd tk_ro_howManyWarm 28 rfl) (by decide) ((nI_leI (a := wd) (b := s) (by omega) (by omega)).mpr (show wd ≤ s by omega)) ?_
          refine x_aload_n 88 3 (ab_dd tk_ro_howManyWarm 49 rfl) rfl rfl rfl ?_
          refine x_astore 90 [some (.ref r), some (.int (nI h)), some (.int (nI n)), some (.ref b1), some (.ref b2), some (.int (nI m)), some (.int (nI wd)), some (.ref b1)] 7 (ab_dd tk_ro_howManyWarm 50 rfl) rfl (by decide) rfl ?_
          refine x_aload 92 4 (ab_dd tk_ro_howManyWarm 51 rfl) rfl rfl ?_
          refine x_astore_n 93 [some (.ref r), some (.int (nI h)), some (.int (nI n)), some (.ref b2), some (.ref b2), some (.int (nI m)), some (.int (nI wd)), some (.ref b1)] 3 (ab_dd tk_ro_howManyWarm 52 rfl) rfl rfl (by decide) rfl ?_
          refine x_aload 95 7 (ab_dd tk_ro_howManyWarm 53 rfl) rfl rfl ?_
          refine x_astore 97 [some (.ref r), some (.int (nI h)), some (.int (nI n)), some (.ref b2), some (.ref b1), some (.int (nI m)), some (.int (nI wd)), some (.ref b1)] 4 (ab_dd tk_ro_howManyWarm 54 rfl) rfl (by decide) rfl ?_
          refine xn_iinc 100 5 (fun y => [some (.ref r), some (.int (nI h)), some (.int (nI n)), some (.ref b2), some (.ref b1), some (.int y), some (.int (nI wd)), some (.ref b1)]) (m + 1) (ab_dd tk_ro_howManyWarm 55 rfl) rfl (by decide) rfl (fun _ => rfl) (iinc_p 1) ?_
          refine x_goto 29 (ab_dd tk_ro_howManyWarm 56 rfl) (by decide) ?_
          rw [sumW_0 T (fun i _ => fz i), Nat.zero_add] at hW
          exact ih (m + 1) (by omega) b2 b1 f' S1 k1 _ _ (by omega) hE1 hcl1 hI1 h9 h14 hkk hf' (fun j hj => by rw [hf j hj, fz j]) hf0' (by omega) hW
        | succ z ihz =>
          intro s hs f f' S1 k1 hE1 hcl1 hI1 h9 h14 hkk hf hf' hwd hlo hhi hf0' hF hW
          have hp := p12 (m + 1) (by omega)
          have hO1 : roK S1 r N := hO.eq hE1
          have hI1b := hI1
          obtain ⟨⟨q1, q2, q3, q4⟩, i2, i3, i4, i5, i6, i7, i8, i9⟩ := hI1b
          have hlen : (cL a k1).length ≤ N := nd_len (bfB_nd k1) (fun c hc => Nat.lt_of_lt_of_le (cL_all ha.1 k1 c hc) i9)
          have hlT := (cL_pre hT i2).len
          have hb1n : b1 < sn S1 := by have := hO1.2.1; omega
          have hb1k : sK S1 b1 = .inl (.int, N) := by
            rcases hb with z | z
            · rw [z.1]; exact hO1.2.2.2.2.2.2.2.1
            · rw [z.1]; exact hO1.2.2.2.2.2.2.2.2.1
          have hb2n : b2 < sn S1 := by have := hO1.2.1; omega
          have hb2k : sK S1 b2 = .inl (.int, N) := by
            rcases hb with z | z
            · rw [z.2]; exact hO1.2.2.2.2.2.2.2.2.1
            · rw [z.2]; exact hO1.2.2.2.2.2.2.2.1
          have hfs : f s ≤ 16777216 := by have := sumF_ge (f := f) T s (by omega); omega
          refine x_iload 46 7 (ab_dd tk_ro_howManyWarm 26 rfl) rfl rfl ?_
          refine x_iload 48 6 (ab_dd tk_ro_howManyWarm 27 rfl) rfl rfl ?_
          refine x_icmp_ge_f 51 (ab_dd tk_ro_howManyWarm 28 rfl) rfl 87 (by decide) (fun z => absurd ((nI_leI (a := wd) (b := s) (by omega) (by omega)).mp z) (show ¬ (wd ≤ s) by omega)) ?_
          refine x_aload_n 52 3 (ab_dd tk_ro_howManyWarm 29 rfl) rfl rfl rfl ?_
          refine x_iload 54 7 (ab_dd tk_ro_howManyWarm 30 rfl) rfl rfl ?_
          refine t_iald 55 s (ab_dd tk_ro_howManyWarm 31 rfl) rfl (by omega) hb1n hb1k rfl (by omega) (by omega) (x_topn (f s) (hf s (by omega)) ?_)
          refine xn_if_eq 58 81 (ab_dd tk_ro_howManyWarm 32 rfl) rfl (by decide) (by omega) (fun h55 => ?_) (fun h55 => ?_)
          · refine xn_iinc 84 7 (fun y => [some (.ref r), some (.int (nI h)), some (.int (nI n)), some (.ref b1), some (.ref b2), some (.int (nI m)), some (.int (nI wd)), some (.int y)]) (s + 1) (ab_dd tk_ro_howManyWarm 47 rfl) rfl (by decide) rfl (fun _ => rfl) (iinc_p 1) ?_
            refine x_goto 44 (ab_dd tk_ro_howManyWarm 48 rfl) (by decide) ?_
            exact ihz (s + 1) (by omega) f f' S1 k1 hE1 hcl1 hI1 h9 h14 hkk hf hf' hwd (fun j hj => by by_cases y : j = s; (· rw [y]; exact h55); (· exact hlo j (by omega))) hhi hf0' hF hW
          · refine x_aload_n 59 0 (ab_dd tk_ro_howManyWarm 33 rfl) rfl rfl rfl ?_
            refine x_iload 61 7 (ab_dd tk_ro_howManyWarm 34 rfl) rfl rfl ?_
            have hx1 : xSh S1 := hx.eq hE1
            have hse1 : seOk S1 := hse.eq hE1 (by simp only [List.mem_cons, List.not_mem_nil, or_false, not_or]; omega) (by simp only [List.mem_cons, List.not_mem_nil, or_false, not_or]; omega) (by simp only [List.mem_cons, List.not_mem_nil, or_false, not_or]; omega) (by simp only [List.mem_cons, List.not_mem_nil, or_false, not_or]; omega)
            have kc1 : kSh S1.1 := by rw [hE1.1]; exact kc
            refine t_callV 64 M_ro_openTo 4 1 [_] (ab_dd tk_ro_howManyWarm 35 rfl) rfl (by first | decide | omega) K_ro_openTo V_ro_openTo.1 V_ro_openTo.2 L_ro_89 rfl (Nat.le_of_ble_eq_true rfl) (by have := hO1.1; omega) (Nat.lt_of_le_of_lt (Nat.le_add_right r 7) hO1.2.1) hO1.2.2.1 rfl (c_ro_openTo hx1 hse1 kc1 him hX hcl1 ha hO1 hri hrb hI1 s (by omega)) (fun v1 w1 h1 => ?_)
            obtain ⟨rfl, S2, k2, rfl, hE2, hcl2, hI2, hn9, hn14, hk12, hT2⟩ := h1
            have hO2 : roK S2 r N := hO1.eq hE2
            have hcl12 := cL_len (a := a) hk12
            have hb1n2 : b1 < sn S2 := by rw [hE2.2.2.2.2.2.1]; exact hb1n
            have hb2n2 : b2 < sn S2 := by rw [hE2.2.2.2.2.2.1]; exact hb2n
            have hb1k2 : sK S2 b1 = .inl (.int, N) := by rw [hE2.2.1]; exact hb1k
            have hb2k2 : sK S2 b2 = .inl (.int, N) := by rw [hE2.2.1]; exact hb2k
            have hf2 : ∀ j, j < N → sI S2 b1 j = nI (f j) := fun j hj => by rw [hE2.2.2.1 b1 (by simp only [List.mem_cons, List.not_mem_nil, or_false, not_or]; omega)]; exact hf j hj
            have hf2' : ∀ j, j < N → sI S2 b2 j = nI (f' j) := fun j hj => by rw [hE2.2.2.1 b2 (by simp only [List.mem_cons, List.not_mem_nil, or_false, not_or]; omega)]; exact hf' j hj
            have hs2 : s < k2 := by omega
            have hi2 := hI2.2.1
            have hl2 : (cL a k2).length ≤ N := nd_len (bfB_nd k2) (fun c hc => Nat.lt_of_lt_of_le (cL_all ha.1 k2 c hc) i9)
            have hl2T : (cL a k2).length ≤ T := by have := (cL_pre hT hi2).len; omega
            have hgi : ∀ e j, e < 4 → gI a T s e = some j → j < (cL a k2).length := fun e j he y => gI_in ha.1 hT hi2 hs2 he y
            refine x_aload_n 65 0 (ab_dd tk_ro_howManyWarm 36 rfl) rfl rfl rfl ?_
            refine x_iload 67 7 (ab_dd tk_ro_howManyWarm 37 rfl) rfl rfl ?_
            refine x_aload_n 68 3 (ab_dd tk_ro_howManyWarm 38 rfl) rfl rfl rfl ?_
            refine x_iload 70 7 (ab_dd tk_ro_howManyWarm 39 rfl) rfl rfl ?_
            refine t_iald 71 s (ab_dd tk_ro_howManyWarm 40 rfl) rfl (by omega) hb1n2 hb1k2 rfl (by omega) (by omega) (x_topn (f s) (hf2 s (by omega)) ?_)
            refine x_aload 73 4 (ab_dd tk_ro_howManyWarm 41 rfl) rfl rfl ?_
            refine t_callV 76 M_ro_spread 1 3 [_, _, _] (ab_dd tk_ro_howManyWarm 42 rfl) rfl (by first | decide | omega) K_ro_spread V_ro_spread.1 V_ro_spread.2 L_ro_116 rfl (Nat.le_of_ble_eq_true rfl) (by have := hO2.1; omega) (Nat.lt_of_le_of_lt (Nat.le_add_right r 7) hO2.2.1) hO2.2.2.1 rfl (c_ro_spread hO2 (b := b2) (by omega) s (f s) (by omega) (g := gI a T s) (fun d hd => roN_o ha.1 hT hI2 hs2 hd) (fun d j hd e => Nat.lt_of_lt_of_le (hgi d j hd e) hl2) hf2') (fun v1 w1 h1 => ?_)
            obtain ⟨rfl, S3, rfl, hE3, hf3⟩ := h1
            have hO3 : roK S3 r N := hO2.eq hE3
            have hb1n3 : b1 < sn S3 := by rw [hE3.2.2.2.2.2.1]; exact hb1n2
            have hb1k3 : sK S3 b1 = .inl (.int, N) := by rw [hE3.2.1]; exact hb1k2
            refine x_aload_n 77 3 (ab_dd tk_ro_howManyWarm 43 rfl) rfl rfl rfl ?_
            refine x_iload 79 7 (ab_dd tk_ro_howManyWarm 44 rfl) rfl rfl ?_
            refine x_iconst 80 0 (ab_dd tk_ro_howManyWarm 45 rfl) rfl (by decide) (x_topn 0 rfl ?_)
            refine t_iast 81 s (ab_dd tk_ro_howManyWarm 46 rfl) rfl (by omega) hb1n3 hb1k3 rfl (by omega) (by omega) ?_
            refine xn_iinc 84 7 (fun y => [some (.ref r), some (.int (nI h)), some (.int (nI n)), some (.ref b1), some (.ref b2), some (.int (nI m)), some (.int (nI wd)), some (.int y)]) (s + 1) (ab_dd tk_ro_howManyWarm 47 rfl) rfl (by decide) rfl (fun _ => rfl) (iinc_p 1) ?_
            refine x_goto 44 (ab_dd tk_ro_howManyWarm 48 rfl) (by decide) ?_
            have hE4 : sEq [b1, b2] S2 (pI S3 b1 s (nI 0)) := (hE3.mono (fun u hu => List.mem_cons_of_mem _ hu)).pI (by simp)
            have hE5 : sEq [x + 5, x + 6, x + 7, x + 8, x + 9, bh, r, r + 1, r + 2, r + 3, r + 4, r + 5, r + 6] S (pI S3 b1 s (nI 0)) := (hE1.tr (hE2.mono (fun u hu => by simp only [List.mem_cons, List.not_mem_nil, or_false] at hu ⊢; omega))).tr (hE4.mono (fun u hu => by simp only [List.mem_cons, List.not_mem_nil, or_false] at hu ⊢; omega))
            have hw := spread_w (g := gI a T) (w := gWb a T h) (f := f) (f' := f') (m := q) (i := s) (N := T) (by omega) (fun e j he y => Nat.lt_of_lt_of_le (hgi e j he y) hl2T)
            refine ihz (s + 1) (by omega) (up1 f s 0) (spA (gI a T s) f' (f s) 4) (pI S3 b1 s (nI 0)) k2 hE5 (hcl2.eq hE4 (by simp only [List.mem_cons, List.not_mem_nil, or_false, not_or]; omega) (fun u hu => hri u (by simp only [List.mem_cons, List.not_mem_nil, or_false] at hu; omega) (by simp only [List.mem_cons, List.not_mem_nil, or_false] at hu; omega)) (by simp only [List.mem_cons, List.not_mem_nil, or_false, not_or]; omega) (by simp only [List.mem_cons, List.not_mem_nil, or_false, not_or]; omega) (by simp only [List.mem_cons, List.not_mem_nil, or_false, not_or]; omega)) (hI2.keep hE4 (by simp only [List.mem_cons, List.not_mem_nil, or_false, not_or]; omega) (by simp only [List.mem_cons, List.not_mem_nil, or_false, not_or]; omega) (by simp only [List.mem_cons, List.not_mem_nil, or_false, not_or]; omega) (by simp only [List.mem_cons, List.not_mem_nil, or_false, not_or]; omega) (by simp only [List.mem_cons, List.not_mem_nil, or_false, not_or]; omega)) ((congrFun (hE4.2.2.1 r (by simp only [List.mem_cons, List.not_mem_nil, or_false, not_or]; omega)) 9).trans (hn9.trans h9)) ((congrFun (hE4.2.2.1 r (by simp only [List.mem_cons, List.not_mem_nil, or_false, not_or]; omega)) 14).trans (hn14.trans h14)) (by omega) (fun j hj => ?_) (fun j hj => ?_) (by omega) (fun j hj => ?_) (fun j hj => ?_) (fun j hj => ?_) (by omega) (by omega)
            · by_cases y : j = s
              · rw [y, gI_s, up1_s]
              · rw [gI_k y, hE3.2.2.1 b1 (by simp only [List.mem_cons, List.not_mem_nil, or_false, not_or]; omega), up1_o y]; exact hf2 j hj
            · rw [gI_o (by omega)]; exact hf3 j hj
            · by_cases y : j = s
              · rw [y, up1_s]
              · rw [up1_o y]; exact hlo j (by omega)
            · rw [up1_o (by omega)]; exact hhi j hj
            · refine Decidable.byContradiction (fun y => ?_)
              rcases spA_in 4 j y with y1 | ⟨e, e1, e2⟩
              · exact y1 (hf0' j (by omega))
              · have := hgi e j e1 e2
                omega
      have hO1 : roK S0 r N := hO.eq hE0
      have hI1b := hI0
      obtain ⟨⟨q1, q2, q3, q4⟩, i2, i3, i4, i5, i6, i7, i8, i9⟩ := hI1b
      have hlen : (cL a k0).length ≤ N := nd_len (bfB_nd k0) (fun c hc => Nat.lt_of_lt_of_le (cL_all ha.1 k0 c hc) i9)
      refine x_iload 31 5 (ab_dd tk_ro_howManyWarm 18 rfl) rfl rfl ?_
      refine x_iload_n 32 2 (ab_dd tk_ro_howManyWarm 19 rfl) rfl rfl rfl ?_
      refine x_icmp_ge_f 35 (ab_dd tk_ro_howManyWarm 20 rfl) rfl 103 (by decide) (fun z => absurd ((nI_leI (a := n) (b := m) (by omega) (by omega)).mp z) (show ¬ (n ≤ m) by omega)) ?_
      refine x_aload_n 36 0 (ab_dd tk_ro_howManyWarm 21 rfl) rfl rfl rfl ?_
      refine t_getI 39 (ab_dd tk_ro_howManyWarm 22 rfl) rfl F_ro_25 (by have := hO1.1; omega) (Nat.lt_of_le_of_lt (Nat.le_add_right r 7) hO1.2.1) hO1.2.2.1 rfl (x_topn ((cL a k0).length) q1 ?_)
      refine x_istore 41 [some (.ref r), some (.int (nI h)), some (.int (nI n)), some (.ref b1), some (.ref b2), some (.int (nI m)), some (.int (nI ((cL a k0).length))), none] 6 (ab_dd tk_ro_howManyWarm 23 rfl) rfl (by decide) rfl ?_
      refine x_iconst 42 0 (ab_dd tk_ro_howManyWarm 24 rfl) rfl (by decide) (x_topn 0 rfl ?_)
      refine x_istore 44 [some (.ref r), some (.int (nI h)), some (.int (nI n)), some (.ref b1), some (.ref b2), some (.int (nI m)), some (.int (nI ((cL a k0).length))), some (.int (nI 0))] 7 (ab_dd tk_ro_howManyWarm 25 rfl) rfl (by decide) rfl ?_
      exact inner (cL a k0).length (cL a k0).length 0 (by omega) f0 (fun _ => 0) S0 k0 hE0 hcl00 hI0 h90 h140 hkk0 hf0a hz0 (Nat.le_refl _) (fun j hj => absurd hj (Nat.not_lt_zero j)) hf00 (fun _ _ => rfl) (by rw [sumF_0 (f := fun _ => 0) T (fun _ _ => rfl), Nat.pow_succ]; omega) (by rw [sumW_0 (f := fun _ => 0) T (fun _ _ => rfl)]; exact hW0)
  have hI0b := hI
  obtain ⟨⟨q1, q2, q3, q4⟩, i2, i3, i4, i5, i6, i7, i8, i9⟩ := hI0b
  have hlen : (cL a k).length ≤ N := nd_len (bfB_nd k) (fun c hc => Nat.lt_of_lt_of_le (cL_all ha.1 k c hc) i9)
  have hpos : 0 < (cL a k).length := (bfB_pos k).1
  have hT0 : 0 < T := by have := (cL_pre hT i2).len; omega
  refine x_aload_n 1 0 (ab_dd tk_ro_howManyWarm 0 rfl) rfl rfl rfl ?_
  refine t_getP 4 (r + 5) (ab_dd tk_ro_howManyWarm 1 rfl) rfl F_ro_51 (by have := hO.1; omega) (Nat.lt_of_le_of_lt (Nat.le_add_right r 7) hO.2.1) hO.2.2.1 rfl hO.2.2.2.2.2.2.2.2.2.2.2.2.2.2.2.1 ?_
  refine x_astore_n 5 [some (.ref r), some (.int (nI h)), some (.int (nI n)), some (.ref (r + 5)), none, none, none, none] 3 (ab_dd tk_ro_howManyWarm 2 rfl) rfl rfl (by decide) rfl ?_
  refine x_aload_n 6 0 (ab_dd tk_ro_howManyWarm 3 rfl) rfl rfl rfl ?_
  refine t_getP 9 (r + 6) (ab_dd tk_ro_howManyWarm 4 rfl) rfl F_ro_54 (by have := hO.1; omega) (Nat.lt_of_le_of_lt (Nat.le_add_right r 7) hO.2.1) hO.2.2.1 rfl hO.2.2.2.2.2.2.2.2.2.2.2.2.2.2.2.2.1 ?_
  refine x_astore 11 [some (.ref r), some (.int (nI h)), some (.int (nI n)), some (.ref (r + 5)), some (.ref (r + 6)), none, none, none] 4 (ab_dd tk_ro_howManyWarm 5 rfl) rfl (by decide) rfl ?_
  refine x_aload_n 12 3 (ab_dd tk_ro_howManyWarm 6 rfl) rfl rfl rfl ?_
  refine x_iconst 13 0 (ab_dd tk_ro_howManyWarm 7 rfl) rfl (by decide) (x_topn 0 rfl ?_)
  refine x_callS 16 M_jA_fill_0 0 2 [_, _] (ab_dd tk_ro_howManyWarm 8 rfl) rfl (by first | decide | omega) K_jA_fill_0 T_jA_fill_0 L_ro_110 rfl (Nat.le_of_ble_eq_true rfl) (c_jA_fill_0 (S := S) (a := r + 5) (n := N) (by omega) (by have := hO.2.1; omega) hO.2.2.2.2.2.2.2.1 (by omega) _) (fun v1 w1 h1 => ?_)
  obtain ⟨rfl, S2, rfl, hE2, -, hv2⟩ := h1
  have hO2 : roK S2 r N := hO.eq hE2
  refine x_aload 18 4 (ab_dd tk_ro_howManyWarm 9 rfl) rfl rfl ?_
  refine x_iconst 19 0 (ab_dd tk_ro_howManyWarm 10 rfl) rfl (by decide) (x_topn 0 rfl ?_)
  refine x_callS 22 M_jA_fill_0 0 2 [_, _] (ab_dd tk_ro_howManyWarm 11 rfl) rfl (by first | decide | omega) K_jA_fill_0 T_jA_fill_0 L_ro_110 rfl (Nat.le_of_ble_eq_true rfl) (c_jA_fill_0 (S := S2) (a := r + 6) (n := N) (by omega) (by have := hO2.2.1; omega) hO2.2.2.2.2.2.2.2.2.1 (by omega) _) (fun v1 w1 h1 => ?_)
  obtain ⟨rfl, S3, rfl, hE3, -, hv3⟩ := h1
  have hO3 : roK S3 r N := hO2.eq hE3
  refine x_aload_n 23 3 (ab_dd tk_ro_howManyWarm 12 rfl) rfl rfl rfl ?_
  refine x_iconst 24 0 (ab_dd tk_ro_howManyWarm 13 rfl) rfl (by decide) (x_topn 0 rfl ?_)
  refine x_iconst 25 1 (ab_dd tk_ro_howManyWarm 14 rfl) rfl (by decide) (x_topn 1 rfl ?_)
  refine t_iast 26 0 (ab_dd tk_ro_howManyWarm 15 rfl) rfl (by have := hO3.1; omega) (Nat.lt_of_le_of_lt (Nat.add_le_add_left (by decide) r) hO3.2.1) hO3.2.2.2.2.2.2.2.1 rfl (by omega) (by omega) ?_
  refine x_iconst 27 0 (ab_dd tk_ro_howManyWarm 16 rfl) rfl (by decide) (x_topn 0 rfl ?_)
  refine x_istore 29 [some (.ref r), some (.int (nI h)), some (.int (nI n)), some (.ref (r + 5)), some (.ref (r + 6)), some (.int (nI 0)), none, none] 5 (ab_dd tk_ro_howManyWarm 17 rfl) rfl (by decide) rfl ?_
  have hE4 : sEq [r + 5, r + 6] S (pI S3 (r + 5) 0 (nI 1)) := ((hE2.mono (by simp)).tr (hE3.mono (by simp))).pI (by simp)
  refine outer n 0 (by omega) (r + 5) (r + 6) (fun i => if i = 0 then 1 else 0) _ k _ _ (Or.inl ⟨rfl, rfl⟩) (hE4.mono (fun u hu => by simp only [List.mem_cons, List.not_mem_nil, or_false] at hu ⊢; omega)) (hcl.eq hE4 (by simp only [List.mem_cons, List.not_mem_nil, or_false, not_or]; omega) (fun u hu => hri u (by simp only [List.mem_cons, List.not_mem_nil, or_false] at hu; omega) (by simp only [List.mem_cons, List.not_mem_nil, or_false] at hu; omega)) (by simp only [List.mem_cons, List.not_mem_nil, or_false, not_or]; omega) (by simp only [List.mem_cons, List.not_mem_nil, or_false, not_or]; omega) (by simp only [List.mem_cons, List.not_mem_nil, or_false, not_or]; omega)) (hI.keep hE4 (by simp only [List.mem_cons, List.not_mem_nil, or_false, not_or]; omega) (by simp only [List.mem_cons, List.not_mem_nil, or_false, not_or]; omega) (by simp only [List.mem_cons, List.not_mem_nil, or_false, not_or]; omega) (by simp only [List.mem_cons, List.not_mem_nil, or_false, not_or]; omega) (by simp only [List.mem_cons, List.not_mem_nil, or_false, not_or]; omega)) (congrFun (hE4.2.2.1 r (by simp only [List.mem_cons, List.not_mem_nil, or_false, not_or]; omega)) 9) (congrFun (hE4.2.2.1 r (by simp only [List.mem_cons, List.not_mem_nil, or_false, not_or]; omega)) 14) (Nat.le_refl _) (fun j hj => ?_) (fun j hj => ?_) (fun j hj => ?_) ?_ ?_
  · by_cases y : j = 0
    · rw [y, gI_s]; rfl
    · rw [gI_k y, hE3.2.2.1 (r + 5) (by simp only [List.mem_cons, List.not_mem_nil, or_false, not_or]; omega), hv2, if_pos hj]; show _ = nI (if j = 0 then 1 else 0); rw [if_neg y]
  · rw [gI_o (by omega), hv3, if_pos hj]
  · exact if_neg (by omega)
  · rw [(sum_one (t := fun _ => 0) T hT0).2]; decide
  · exact (sum_one T hT0).1
