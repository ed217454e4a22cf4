/-! ===== the class's laws ===== -/
theorem fa_or (a b : Nat) : nI a ||| nI b = nI (a ||| b) := by
  apply Int32.toBitVec_inj.1
  show BitVec.ofNat 32 a ||| BitVec.ofNat 32 b = BitVec.ofNat 32 (a ||| b)
  apply BitVec.eq_of_getLsbD_eq
  intro i hi
  simp [hi]
theorem fa_or_sum {a k : Nat} (b : Nat) (h : a < 2 ^ k) : nI (2 ^ k * b) ||| nI a = nI (2 ^ k * b + a) := by rw [fa_or, Nat.two_pow_add_eq_or_of_lt h]
def clK (S : ab_S) (x : Nat) : Prop := (x = 84 ∨ x = 94) ∧ x + 9 < sn S ∧ sK S x = .inr 1 ∧ sK S (x + 5) = .inl (.int, 2160) ∧ sK S (x + 6) = .inl (.int, 80) ∧ sK S (x + 7) = .inl (.int, 4) ∧ sK S (x + 8) = .inl (.int, 10) ∧ sK S (x + 9) = .inl (.int, 80) ∧ sP S x 0 = some 78 ∧ sP S x 7 = some (x + 5) ∧ sP S x 8 = some (x + 6) ∧ sP S x 9 = some (x + 7) ∧ sP S x 10 = some (x + 8) ∧ sP S x 11 = some (x + 9)
theorem xSh.cl {S : ab_S} (hx : xSh S) {x : Nat} (h : x = 84 ∨ x = 94) : clK S x := by
  have h1 := hx.1
  rcases h with rfl | rfl
  · exact ⟨Or.inl rfl, by omega, hx.2.1 34 (by decide), hx.2.1 39 (by decide), hx.2.1 40 (by decide), hx.2.1 41 (by decide), hx.2.1 42 (by decide), hx.2.1 43 (by decide), hx.2.2 (84, 0, 78) (by decide), hx.2.2 (84, 7, 89) (by decide), hx.2.2 (84, 8, 90) (by decide), hx.2.2 (84, 9, 91) (by decide), hx.2.2 (84, 10, 92) (by decide), hx.2.2 (84, 11, 93) (by decide)⟩
  · exact ⟨Or.inr rfl, by omega, hx.2.1 44 (by decide), hx.2.1 49 (by decide), hx.2.1 50 (by decide), hx.2.1 51 (by decide), hx.2.1 52 (by decide), hx.2.1 53 (by decide), hx.2.2 (94, 0, 78) (by decide), hx.2.2 (94, 7, 99) (by decide), hx.2.2 (94, 8, 100) (by decide), hx.2.2 (94, 9, 101) (by decide), hx.2.2 (94, 10, 102) (by decide), hx.2.2 (94, 11, 103) (by decide)⟩
theorem clK.eq {S S' : ab_S} {x : Nat} {l : List Nat} (h : clK S x) (hE : sEq l S S') : clK S' x := by
  unfold clK
  rw [hE.2.1, hE.2.2.2.2.1, hE.2.2.2.2.2.1]
  exact h
/-- one working of the class on two numbers -/
def wkB (w a b : Int32) : Int32 := if w = -13 then (if a = b then 1 else 0) else if w = -14 then (if a < b then 1 else 0) else if w = -15 then (if b < a then 1 else 0) else if w = -17 then a &&& b else if w = -18 then a ||| b else (lwC (if w = -10 then a.toInt64 + b.toInt64 else if w = -11 then a.toInt64 - b.toInt64 else a.toInt64 * b.toInt64)).toInt32
theorem wkB_ok {y : Nat} (h : 3000 ≤ y) (h2 : y ≤ 3008) (h6 : y ≠ 3006) (a b : Int32) : wkB (cvt (nI y)) a b = lwB (nI y) a b := by
  have hy : y = 3000 ∨ y = 3001 ∨ y = 3002 ∨ y = 3003 ∨ y = 3004 ∨ y = 3005 ∨ y = 3007 ∨ y = 3008 := by omega
  rcases hy with rfl | rfl | rfl | rfl | rfl | rfl | rfl | rfl <;> rfl
def tb_cl_workedBoth : List (Nat × Instr × Nat) := [(0, .iload_n 0, 1), (1, .tableswitch 80 (-18) (-13) #[76, 72, 80, 61, 50, 39], 39), (40, .iload_n 1, 1), (41, .iload_n 2, 1), (42, .if_icmp .ne 7, 3), (45, .iconst 1, 1), (46, .goto 4, 3), (49, .iconst 0, 1), (50, .ireturn, 1), (51, .iload_n 1, 1), (52, .iload_n 2, 1), (53, .if_icmp .ge 7, 3), (56, .iconst 1, 1), (57, .goto 4, 3), (60, .iconst 0, 1), (61, .ireturn, 1), (62, .iload_n 1, 1), (63, .iload_n 2, 1), (64, .if_icmp .le 7, 3), (67, .iconst 1, 1), (68, .goto 4, 3), (71, .iconst 0, 1), (72, .ireturn, 1), (73, .iload_n 1, 1), (74, .iload_n 2, 1), (75, .iand, 1), (76, .ireturn, 1), (77, .iload_n 1, 1), (78, .iload_n 2, 1), (79, .ior, 1), (80, .ireturn, 1), (81, .iload_n 1, 1), (82, .i2l, 1), (83, .iload_n 2, 1), (84, .i2l, 1), (85, .lmul, 1), (86, .lstore_n 3, 1), (87, .iload_n 0, 1), (88, .bipush (-10), 2), (90, .if_icmp .ne 12, 3), (93, .iload_n 1, 1), (94, .i2l, 1), (95, .iload_n 2, 1), (96, .i2l, 1), (97, .ladd, 1), (98, .lstore_n 3, 1), (99, .goto 15, 3), (102, .iload_n 0, 1), (103, .bipush (-11), 2), (105, .if_icmp .ne 9, 3), (108, .iload_n 1, 1), (109, .i2l, 1), (110, .iload_n 2, 1), (111, .i2l, 1), (112, .lsub, 1), (113, .lstore_n 3, 1), (114, .lload_n 3, 1), (115, .ldc2_w 117, 3), (118, .lcmp, 1), (119, .ifCond .le 6, 3), (122, .ldc 119, 2), (124, .ireturn, 1), (125, .lload_n 3, 1), (126, .ldc2_w 120, 3), (129, .lcmp, 1), (130, .ifCond .ge 8, 3), (133, .ldc 122, 2), (135, .goto 5, 3), (138, .lload_n 3, 1), (139, .l2i, 1), (140, .ireturn, 1)]
theorem tk_cl_workedBoth : ∀ q ∈ tb_cl_workedBoth, decode M_cl_workedBoth.2.1 q.1 = .ok q.2 := by decide +kernel
theorem c_cl_workedBoth {G : ab_G} {S : ab_S} (w a b : Int32) : ab_C G 0 M_cl_workedBoth [.int w, .int a, .int b] (sw S) (fun v w' => v = some (.int (wkB w a b)) ∧ w' = sw S) := by
  refine x_enter [some (.int w), some (.int a), some (.int b), none, none] (by decide) (Nat.le_of_ble_eq_true rfl) rfl (fun v w' h => by obtain ⟨rfl, rfl⟩ := h; rfl) ?_
  refine x_iload_n 1 0 (ab_dd tk_cl_workedBoth 0 rfl) rfl rfl rfl ?_
  by_cases hT1 : (-18 : Int) ≤ Int32.toInt w ∧ Int32.toInt w ≤ (-13 : Int)
  · have hc1 : Int32.toInt w = (-18 : Int) ∨ Int32.toInt w = (-17 : Int) ∨ Int32.toInt w = (-16 : Int) ∨ Int32.toInt w = (-15 : Int) ∨ Int32.toInt w = (-14 : Int) ∨ Int32.toInt w = (-13 : Int) := by omega
    rcases hc1 with hc1 | hc1 | hc1 | hc1 | hc1 | hc1
    · refine x_tableIn 77 (ab_dd tk_cl_workedBoth 1 rfl) (by omega) (by omega) (by rw [hc1]; rfl) (by decide) ?_
      refine x_iload_n 78 1 (ab_dd tk_cl_workedBoth 27 rfl) rfl rfl rfl ?_
      refine x_iload_n 79 2 (ab_dd tk_cl_workedBoth 28 rfl) rfl rfl rfl ?_
      refine x_ior 80 (ab_dd tk_cl_workedBoth 29 rfl) rfl ?_
      exact x_iret (ab_dd tk_cl_workedBoth 30 rfl) ⟨rI (by unfold wkB; rw [if_neg (toInt_ne (n := 0) (y := (-13)) (by rw [hc1]; decide)), if_neg (toInt_ne (n := 0) (y := (-14)) (by rw [hc1]; decide)), if_neg (toInt_ne (n := 0) (y := (-15)) (by rw [hc1]; decide)), if_neg (toInt_ne (n := 0) (y := (-17)) (by rw [hc1]; decide)), if_pos (of_toInt (y := (-18)) hc1)] <;> rfl), rfl⟩
    · refine x_tableIn 73 (ab_dd tk_cl_workedBoth 1 rfl) (by omega) (by omega) (by rw [hc1]; rfl) (by decide) ?_
      refine x_iload_n 74 1 (ab_dd tk_cl_workedBoth 23 rfl) rfl rfl rfl ?_
      refine x_iload_n 75 2 (ab_dd tk_cl_workedBoth 24 rfl) rfl rfl rfl ?_
      refine x_iand 76 (ab_dd tk_cl_workedBoth 25 rfl) rfl ?_
      exact x_iret (ab_dd tk_cl_workedBoth 26 rfl) ⟨rI (by unfold wkB; rw [if_neg (toInt_ne (n := 0) (y := (-13)) (by rw [hc1]; decide)), if_neg (toInt_ne (n := 0) (y := (-14)) (by rw [hc1]; decide)), if_neg (toInt_ne (n := 0) (y := (-15)) (by rw [hc1]; decide)), if_pos (of_toInt (y := (-17)) hc1)] <;> rfl), rfl⟩
    · refine x_tableIn 81 (ab_dd tk_cl_workedBoth 1 rfl) (by omega) (by omega) (by rw [hc1]; rfl) (by decide) ?_
      refine x_iload_n 82 1 (ab_dd tk_cl_workedBoth 31 rfl) rfl rfl rfl ?_
      refine x_i2l 83 (ab_dd tk_cl_workedBoth 32 rfl) rfl ?_
      refine x_iload_n 84 2 (ab_dd tk_cl_workedBoth 33 rfl) rfl rfl rfl ?_
      refine x_i2l 85 (ab_dd tk_cl_workedBoth 34 rfl) rfl ?_
      refine x_lmul 86 (ab_dd tk_cl_workedBoth 35 rfl) rfl ?_
      refine x_topl (fun v1 ev1 => ?_)
      refine x_lstore_n 87 [some (.int w), some (.int a), some (.int b), some (.long v1), none] 3 (ab_dd tk_cl_workedBoth 36 rfl) rfl rfl (by decide) rfl ?_
      refine x_iload_n 88 0 (ab_dd tk_cl_workedBoth 37 rfl) rfl rfl rfl ?_
      refine x_bipush 90 (-10) (ab_dd tk_cl_workedBoth 38 rfl) rfl (by decide) ?_
      refine x_icmp_ne 93 102 (ab_dd tk_cl_workedBoth 39 rfl) rfl (by decide) (fun h90 => ?_) (fun h90 => ?_)
      · refine x_iload_n 103 0 (ab_dd tk_cl_workedBoth 47 rfl) rfl rfl rfl ?_
        refine x_bipush 105 (-11) (ab_dd tk_cl_workedBoth 48 rfl) rfl (by decide) ?_
        refine x_icmp_ne 108 114 (ab_dd tk_cl_workedBoth 49 rfl) rfl (by decide) (fun h105 => ?_) (fun h105 => ?_)
        · refine x_lload_n 115 3 (ab_dd tk_cl_workedBoth 56 rfl) rfl rfl rfl ?_
          refine x_ldc2 118 (ab_dd tk_cl_workedBoth 57 rfl) rfl C_cl_117 ?_
          refine x_lcmp 119 (ab_dd tk_cl_workedBoth 58 rfl) rfl ?_
          refine x_if_le 122 125 (ab_dd tk_cl_workedBoth 59 rfl) rfl (by decide) (fun h119 => ?_) (fun h119 => ?_)
          · refine x_lload_n 126 3 (ab_dd tk_cl_workedBoth 62 rfl) rfl rfl rfl ?_
            refine x_ldc2 129 (ab_dd tk_cl_workedBoth 63 rfl) rfl C_cl_120 ?_
            refine x_lcmp 130 (ab_dd tk_cl_workedBoth 64 rfl) rfl ?_
            refine x_if_ge 133 138 (ab_dd tk_cl_workedBoth 65 rfl) rfl (by decide) (fun h130 => ?_) (fun h130 => ?_)
            · refine x_lload_n 139 3 (ab_dd tk_cl_workedBoth 68 rfl) rfl rfl rfl ?_
              refine x_l2i 140 (ab_dd tk_cl_workedBoth 69 rfl) rfl ?_
              exact x_iret (ab_dd tk_cl_workedBoth 70 rfl) ⟨rI (by unfold wkB; rw [if_neg (toInt_ne (n := 0) (y := (-13)) (by rw [hc1]; decide)), if_neg (toInt_ne (n := 0) (y := (-14)) (by rw [hc1]; decide)), if_neg (toInt_ne (n := 0) (y := (-15)) (by rw [hc1]; decide)), if_neg (toInt_ne (n := 0) (y := (-17)) (by rw [hc1]; decide)), if_neg (toInt_ne (n := 0) (y := (-18)) (by rw [hc1]; decide)), if_neg h90, if_neg h105]; unfold lwC; rw [← ev1, if_neg (show ¬ (1000000 : Int64) < v1 from by have := h119; rw [lg_cmp_le] at this; exact Int64.not_lt.mpr this), if_neg (show ¬ v1 < (-1000000 : Int64) from by have := h130; rw [lg_cmp_ge] at this; exact Int64.not_lt.mpr this)]), rfl⟩
            · refine x_ldc 135 (ab_dd tk_cl_workedBoth 66 rfl) rfl C_cl_122 ?_
              refine x_goto 140 (ab_dd tk_cl_workedBoth 67 rfl) (by decide) ?_
              exact x_iret (ab_dd tk_cl_workedBoth 70 rfl) ⟨rI (by unfold wkB; rw [if_neg (toInt_ne (n := 0) (y := (-13)) (by rw [hc1]; decide)), if_neg (toInt_ne (n := 0) (y := (-14)) (by rw [hc1]; decide)), if_neg (toInt_ne (n := 0) (y := (-15)) (by rw [hc1]; decide)), if_neg (toInt_ne (n := 0) (y := (-17)) (by rw [hc1]; decide)), if_neg (toInt_ne (n := 0) (y := (-18)) (by rw [hc1]; decide)), if_neg h90, if_neg h105]; unfold lwC; rw [← ev1, if_neg (show ¬ (1000000 : Int64) < v1 from by have := h119; rw [lg_cmp_le] at this; exact Int64.not_lt.mpr this), if_pos (show v1 < (-1000000 : Int64) from by have := h130; rw [lg_cmp_ge] at this; exact Int64.not_le.mp this)]; rfl), rfl⟩
          · refine x_ldc 124 (ab_dd tk_cl_workedBoth 60 rfl) rfl C_cl_119 (x_topn 1000000 rfl ?_)
            exact x_iret (ab_dd tk_cl_workedBoth 61 rfl) ⟨rI (by unfold wkB; rw [if_neg (toInt_ne (n := 0) (y := (-13)) (by rw [hc1]; decide)), if_neg (toInt_ne (n := 0) (y := (-14)) (by rw [hc1]; decide)), if_neg (toInt_ne (n := 0) (y := (-15)) (by rw [hc1]; decide)), if_neg (toInt_ne (n := 0) (y := (-17)) (by rw [hc1]; decide)), if_neg (toInt_ne (n := 0) (y := (-18)) (by rw [hc1]; decide)), if_neg h90, if_neg h105]; unfold lwC; rw [← ev1, if_pos (show (1000000 : Int64) < v1 from by have := h119; rw [lg_cmp_le] at this; exact Int64.not_le.mp this)]; rfl), rfl⟩
        · refine x_iload_n 109 1 (ab_dd tk_cl_workedBoth 50 rfl) rfl rfl rfl ?_
          refine x_i2l 110 (ab_dd tk_cl_workedBoth 51 rfl) rfl ?_
          refine x_iload_n 111 2 (ab_dd tk_cl_workedBoth 52 rfl) rfl rfl rfl ?_
          refine x_i2l 112 (ab_dd tk_cl_workedBoth 53 rfl) rfl ?_
          refine x_lsub 113 (ab_dd tk_cl_workedBoth 54 rfl) rfl ?_
          refine x_topl (fun v2 ev2 => ?_)
          refine x_lstore_n 114 [some (.int w), some (.int a), some (.int b), some (.long v2), none] 3 (ab_dd tk_cl_workedBoth 55 rfl) rfl rfl (by decide) rfl ?_
          refine x_lload_n 115 3 (ab_dd tk_cl_workedBoth 56 rfl) rfl rfl rfl ?_
          refine x_ldc2 118 (ab_dd tk_cl_workedBoth 57 rfl) rfl C_cl_117 ?_
          refine x_lcmp 119 (ab_dd tk_cl_workedBoth 58 rfl) rfl ?_
          refine x_if_le 122 125 (ab_dd tk_cl_workedBoth 59 rfl) rfl (by decide) (fun h119 => ?_) (fun h119 => ?_)
          · refine x_lload_n 126 3 (ab_dd tk_cl_workedBoth 62 rfl) rfl rfl rfl ?_
            refine x_ldc2 129 (ab_dd tk_cl_workedBoth 63 rfl) rfl C_cl_120 ?_
            refine x_lcmp 130 (ab_dd tk_cl_workedBoth 64 rfl) rfl ?_
            refine x_if_ge 133 138 (ab_dd tk_cl_workedBoth 65 rfl) rfl (by decide) (fun h130 => ?_) (fun h130 => ?_)
            · refine x_lload_n 139 3 (ab_dd tk_cl_workedBoth 68 rfl) rfl rfl rfl ?_
              refine x_l2i 140 (ab_dd tk_cl_workedBoth 69 rfl) rfl ?_
              exact x_iret (ab_dd tk_cl_workedBoth 70 rfl) ⟨rI (by unfold wkB; rw [if_neg (toInt_ne (n := 0) (y := (-13)) (by rw [hc1]; decide)), if_neg (toInt_ne (n := 0) (y := (-14)) (by rw [hc1]; decide)), if_neg (toInt_ne (n := 0) (y := (-15)) (by rw [hc1]; decide)), if_neg (toInt_ne (n := 0) (y := (-17)) (by rw [hc1]; decide)), if_neg (toInt_ne (n := 0) (y := (-18)) (by rw [hc1]; decide)), if_neg h90, if_pos h105]; unfold lwC; rw [← ev2, if_neg (show ¬ (1000000 : Int64) < v2 from by have := h119; rw [lg_cmp_le] at this; exact Int64.not_lt.mpr this), if_neg (show ¬ v2 < (-1000000 : Int64) from by have := h130; rw [lg_cmp_ge] at this; exact Int64.not_lt.mpr this)]), rfl⟩
            · refine x_ldc 135 (ab_dd tk_cl_workedBoth 66 rfl) rfl C_cl_122 ?_
              refine x_goto 140 (ab_dd tk_cl_workedBoth 67 rfl) (by decide) ?_
              exact x_iret (ab_dd tk_cl_workedBoth 70 rfl) ⟨rI (by unfold wkB; rw [if_neg (toInt_ne (n := 0) (y := (-13)) (by rw [hc1]; decide)), if_neg (toInt_ne (n := 0) (y := (-14)) (by rw [hc1]; decide)), if_neg (toInt_ne (n := 0) (y := (-15)) (by rw [hc1]; decide)), if_neg (toInt_ne (n := 0) (y := (-17)) (by rw [hc1]; decide)), if_neg (toInt_ne (n := 0) (y := (-18)) (by rw [hc1]; decide)), if_neg h90, if_pos h105]; unfold lwC; rw [← ev2, if_neg (show ¬ (1000000 : Int64) < v2 from by have := h119; rw [lg_cmp_le] at this; exact Int64.not_lt.mpr this), if_pos (show v2 < (-1000000 : Int64) from by have := h130; rw [lg_cmp_ge] at this; exact Int64.not_le.mp this)]; rfl), rfl⟩
          · refine x_ldc 124 (ab_dd tk_cl_workedBoth 60 rfl) rfl C_cl_119 (x_topn 1000000 rfl ?_)
            exact x_iret (ab_dd tk_cl_workedBoth 61 rfl) ⟨rI (by unfold wkB; rw [if_neg (toInt_ne (n := 0) (y := (-13)) (by rw [hc1]; decide)), if_neg (toInt_ne (n := 0) (y := (-14)) (by rw [hc1]; decide)), if_neg (toInt_ne (n := 0) (y := (-15)) (by rw [hc1]; decide)), if_neg (toInt_ne (n := 0) (y := (-17)) (by rw [hc1]; decide)), if_neg (toInt_ne (n := 0) (y := (-18)) (by rw [hc1]; decide)), if_neg h90, if_pos h105]; unfold lwC; rw [← ev2, if_pos (show (1000000 : Int64) < v2 from by have := h119; rw [lg_cmp_le] at this; exact Int64.not_le.mp this)]; rfl), rfl⟩
      · refine x_iload_n 94 1 (ab_dd tk_cl_workedBoth 40 rfl) rfl rfl rfl ?_
        refine x_i2l 95 (ab_dd tk_cl_workedBoth 41 rfl) rfl ?_
        refine x_iload_n 96 2 (ab_dd tk_cl_workedBoth 42 rfl) rfl rfl rfl ?_
        refine x_i2l 97 (ab_dd tk_cl_workedBoth 43 rfl) rfl ?_
        refine x_ladd 98 (ab_dd tk_cl_workedBoth 44 rfl) rfl ?_
        refine x_topl (fun v3 ev3 => ?_)
        refine x_lstore_n 99 [some (.int w), some (.int a), some (.int b), some (.long v3), none] 3 (ab_dd tk_cl_workedBoth 45 rfl) rfl rfl (by decide) rfl ?_
        refine x_goto 114 (ab_dd tk_cl_workedBoth 46 rfl) (by decide) ?_
        refine x_lload_n 115 3 (ab_dd tk_cl_workedBoth 56 rfl) rfl rfl rfl ?_
        refine x_ldc2 118 (ab_dd tk_cl_workedBoth 57 rfl) rfl C_cl_117 ?_
        refine x_lcmp 119 (ab_dd tk_cl_workedBoth 58 rfl) rfl ?_
        refine x_if_le 122 125 (ab_dd tk_cl_workedBoth 59 rfl) rfl (by decide) (fun h119 => ?_) (fun h119 => ?_)
        · refine x_lload_n 126 3 (ab_dd tk_cl_workedBoth 62 rfl) rfl rfl rfl ?_
          refine x_ldc2 129 (ab_dd tk_cl_workedBoth 63 rfl) rfl C_cl_120 ?_
          refine x_lcmp 130 (ab_dd tk_cl_workedBoth 64 rfl) rfl ?_
          refine x_if_ge 133 138 (ab_dd tk_cl_workedBoth 65 rfl) rfl (by decide) (fun h130 => ?_) (fun h130 => ?_)
          · refine x_lload_n 139 3 (ab_dd tk_cl_workedBoth 68 rfl) rfl rfl rfl ?_
            refine x_l2i 140 (ab_dd tk_cl_workedBoth 69 rfl) rfl ?_
            exact x_iret (ab_dd tk_cl_workedBoth 70 rfl) ⟨rI (by unfold wkB; rw [if_neg (toInt_ne (n := 0) (y := (-13)) (by rw [hc1]; decide)), if_neg (toInt_ne (n := 0) (y := (-14)) (by rw [hc1]; decide)), if_neg (toInt_ne (n := 0) (y := (-15)) (by rw [hc1]; decide)), if_neg (toInt_ne (n := 0) (y := (-17)) (by rw [hc1]; decide)), if_neg (toInt_ne (n := 0) (y := (-18)) (by rw [hc1]; decide)), if_pos h90]; unfold lwC; rw [← ev3, if_neg (show ¬ (1000000 : Int64) < v3 from by have := h119; rw [lg_cmp_le] at this; exact Int64.not_lt.mpr this), if_neg (show ¬ v3 < (-1000000 : Int64) from by have := h130; rw [lg_cmp_ge] at this; exact Int64.not_lt.mpr this)]), rfl⟩
          · refine x_ldc 135 (ab_dd tk_cl_workedBoth 66 rfl) rfl C_cl_122 ?_
            refine x_goto 140 (ab_dd tk_cl_workedBoth 67 rfl) (by decide) ?_
            exact x_iret (ab_dd tk_cl_workedBoth 70 rfl) ⟨rI (by unfold wkB; rw [if_neg (toInt_ne (n := 0) (y := (-13)) (by rw [hc1]; decide)), if_neg (toInt_ne (n := 0) (y := (-14)) (by rw [hc1]; decide)), if_neg (toInt_ne (n := 0) (y := (-15)) (by rw [hc1]; decide)), if_neg (toInt_ne (n := 0) (y := (-17)) (by rw [hc1]; decide)), if_neg (toInt_ne (n := 0) (y := (-18)) (by rw [hc1]; decide)), if_pos h90]; unfold lwC; rw [← ev3, if_neg (show ¬ (1000000 : Int64) < v3 from by have := h119; rw [lg_cmp_le] at this; exact Int64.not_lt.mpr this), if_pos (show v3 < (-1000000 : Int64) from by have := h130; rw [lg_cmp_ge] at this; exact Int64.not_le.mp this)]; rfl), rfl⟩
        · refine x_ldc 124 (ab_dd tk_cl_workedBoth 60 rfl) rfl C_cl_119 (x_topn 1000000 rfl ?_)
          exact x_iret (ab_dd tk_cl_workedBoth 61 rfl) ⟨rI (by unfold wkB; rw [if_neg (toInt_ne (n := 0) (y := (-13)) (by rw [hc1]; decide)), if_neg (toInt_ne (n := 0) (y := (-14)) (by rw [hc1]; decide)), if_neg (toInt_ne (n := 0) (y := (-15)) (by rw [hc1]; decide)), if_neg (toInt_ne (n := 0) (y := (-17)) (by rw [hc1]; decide)), if_neg (toInt_ne (n := 0) (y := (-18)) (by rw [hc1]; decide)), if_pos h90]; unfold lwC; rw [← ev3, if_pos (show (1000000 : Int64) < v3 from by have := h119; rw [lg_cmp_le] at this; exact Int64.not_le.mp this)]; rfl), rfl⟩
    · refine x_tableIn 62 (ab_dd tk_cl_workedBoth 1 rfl) (by omega) (by omega) (by rw [hc1]; rfl) (by decide) ?_
      refine x_iload_n 63 1 (ab_dd tk_cl_workedBoth 16 rfl) rfl rfl rfl ?_
      refine x_iload_n 64 2 (ab_dd tk_cl_workedBoth 17 rfl) rfl rfl rfl ?_
      refine x_icmp_le 67 71 (ab_dd tk_cl_workedBoth 18 rfl) rfl (by decide) (fun h64 => ?_) (fun h64 => ?_)
      · refine x_iconst 72 0 (ab_dd tk_cl_workedBoth 21 rfl) rfl (by decide) (x_topn 0 rfl ?_)
        exact x_iret (ab_dd tk_cl_workedBoth 22 rfl) ⟨rI (by unfold wkB; rw [if_neg (toInt_ne (n := 0) (y := (-13)) (by rw [hc1]; decide)), if_neg (toInt_ne (n := 0) (y := (-14)) (by rw [hc1]; decide)), if_pos (of_toInt (y := (-15)) hc1), if_neg (Int32.not_lt.mpr h64)] <;> rfl), rfl⟩
      · refine x_iconst 68 1 (ab_dd tk_cl_workedBoth 19 rfl) rfl (by decide) (x_topn 1 rfl ?_)
        refine x_goto 72 (ab_dd tk_cl_workedBoth 20 rfl) (by decide) ?_
        exact x_iret (ab_dd tk_cl_workedBoth 22 rfl) ⟨rI (by unfold wkB; rw [if_neg (toInt_ne (n := 0) (y := (-13)) (by rw [hc1]; decide)), if_neg (toInt_ne (n := 0) (y := (-14)) (by rw [hc1]; decide)), if_pos (of_toInt (y := (-15)) hc1), if_pos (Int32.not_le.mp h64)] <;> rfl), rfl⟩
    · refine x_tableIn 51 (ab_dd tk_cl_workedBoth 1 rfl) (by omega) (by omega) (by rw [hc1]; rfl) (by decide) ?_
      refine x_iload_n 52 1 (ab_dd tk_cl_workedBoth 9 rfl) rfl rfl rfl ?_
      refine x_iload_n 53 2 (ab_dd tk_cl_workedBoth 10 rfl) rfl rfl rfl ?_
      refine x_icmp_ge 56 60 (ab_dd tk_cl_workedBoth 11 rfl) rfl (by decide) (fun h53 => ?_) (fun h53 => ?_)
      · refine x_iconst 61 0 (ab_dd tk_cl_workedBoth 14 rfl) rfl (by decide) (x_topn 0 rfl ?_)
        exact x_iret (ab_dd tk_cl_workedBoth 15 rfl) ⟨rI (by unfold wkB; rw [if_neg (toInt_ne (n := 0) (y := (-13)) (by rw [hc1]; decide)), if_pos (of_toInt (y := (-14)) hc1), if_neg (Int32.not_lt.mpr h53)] <;> rfl), rfl⟩
      · refine x_iconst 57 1 (ab_dd tk_cl_workedBoth 12 rfl) rfl (by decide) (x_topn 1 rfl ?_)
        refine x_goto 61 (ab_dd tk_cl_workedBoth 13 rfl) (by decide) ?_
        exact x_iret (ab_dd tk_cl_workedBoth 15 rfl) ⟨rI (by unfold wkB; rw [if_neg (toInt_ne (n := 0) (y := (-13)) (by rw [hc1]; decide)), if_pos (of_toInt (y := (-14)) hc1), if_pos (Int32.not_le.mp h53)] <;> rfl), rfl⟩
    · refine x_tableIn 40 (ab_dd tk_cl_workedBoth 1 rfl) (by omega) (by omega) (by rw [hc1]; rfl) (by decide) ?_
      refine x_iload_n 41 1 (ab_dd tk_cl_workedBoth 2 rfl) rfl rfl rfl ?_
      refine x_iload_n 42 2 (ab_dd tk_cl_workedBoth 3 rfl) rfl rfl rfl ?_
      refine x_icmp_ne 45 49 (ab_dd tk_cl_workedBoth 4 rfl) rfl (by decide) (fun h42 => ?_) (fun h42 => ?_)
      · refine x_iconst 50 0 (ab_dd tk_cl_workedBoth 7 rfl) rfl (by decide) (x_topn 0 rfl ?_)
        exact x_iret (ab_dd tk_cl_workedBoth 8 rfl) ⟨rI (by unfold wkB; rw [if_pos (of_toInt (y := (-13)) hc1), if_neg h42] <;> rfl), rfl⟩
      · refine x_iconst 46 1 (ab_dd tk_cl_workedBoth 5 rfl) rfl (by decide) (x_topn 1 rfl ?_)
        refine x_goto 50 (ab_dd tk_cl_workedBoth 6 rfl) (by decide) ?_
        exact x_iret (ab_dd tk_cl_workedBoth 8 rfl) ⟨rI (by unfold wkB; rw [if_pos (of_toInt (y := (-13)) hc1), if_pos h42] <;> rfl), rfl⟩
  · refine x_tableOut 81 (ab_dd tk_cl_workedBoth 1 rfl) (by omega) (by decide) ?_
    refine x_iload_n 82 1 (ab_dd tk_cl_workedBoth 31 rfl) rfl rfl rfl ?_
    refine x_i2l 83 (ab_dd tk_cl_workedBoth 32 rfl) rfl ?_
    refine x_iload_n 84 2 (ab_dd tk_cl_workedBoth 33 rfl) rfl rfl rfl ?_
    refine x_i2l 85 (ab_dd tk_cl_workedBoth 34 rfl) rfl ?_
    refine x_lmul 86 (ab_dd tk_cl_workedBoth 35 rfl) rfl ?_
    refine x_topl (fun v4 ev4 => ?_)
    refine x_lstore_n 87 [some (.int w), some (.int a), some (.int b), some (.long v4), none] 3 (ab_dd tk_cl_workedBoth 36 rfl) rfl rfl (by decide) rfl ?_
    refine x_iload_n 88 0 (ab_dd tk_cl_workedBoth 37 rfl) rfl rfl rfl ?_
    refine x_bipush 90 (-10) (ab_dd tk_cl_workedBoth 38 rfl) rfl (by decide) ?_
    refine x_icmp_ne 93 102 (ab_dd tk_cl_workedBoth 39 rfl) rfl (by decide) (fun h90 => ?_) (fun h90 => ?_)
    · refine x_iload_n 103 0 (ab_dd tk_cl_workedBoth 47 rfl) rfl rfl rfl ?_
      refine x_bipush 105 (-11) (ab_dd tk_cl_workedBoth 48 rfl) rfl (by decide) ?_
      refine x_icmp_ne 108 114 (ab_dd tk_cl_workedBoth 49 rfl) rfl (by decide) (fun h105 => ?_) (fun h105 => ?_)
      · refine x_lload_n 115 3 (ab_dd tk_cl_workedBoth 56 rfl) rfl rfl rfl ?_
        refine x_ldc2 118 (ab_dd tk_cl_workedBoth 57 rfl) rfl C_cl_117 ?_
        refine x_lcmp 119 (ab_dd tk_cl_workedBoth 58 rfl) rfl ?_
        refine x_if_le 122 125 (ab_dd tk_cl_workedBoth 59 rfl) rfl (by decide) (fun h119 => ?_) (fun h119 => ?_)
        · refine x_lload_n 126 3 (ab_dd tk_cl_workedBoth 62 rfl) rfl rfl rfl ?_
          refine x_ldc2 129 (ab_dd tk_cl_workedBoth 63 rfl) rfl C_cl_120 ?_
          refine x_lcmp 130 (ab_dd tk_cl_workedBoth 64 rfl) rfl ?_
          refine x_if_ge 133 138 (ab_dd tk_cl_workedBoth 65 rfl) rfl (by decide) (fun h130 => ?_) (fun h130 => ?_)
          · refine x_lload_n 139 3 (ab_dd tk_cl_workedBoth 68 rfl) rfl rfl rfl ?_
            refine x_l2i 140 (ab_dd tk_cl_workedBoth 69 rfl) rfl ?_
            exact x_iret (ab_dd tk_cl_workedBoth 70 rfl) ⟨rI (by unfold wkB; rw [if_neg (fun z => hT1 (by rw [z]; decide)), if_neg (fun z => hT1 (by rw [z]; decide)), if_neg (fun z => hT1 (by rw [z]; decide)), if_neg (fun z => hT1 (by rw [z]; decide)), if_neg (fun z => hT1 (by rw [z]; decide)), if_neg h90, if_neg h105]; unfold lwC; rw [← ev4, if_neg (show ¬ (1000000 : Int64) < v4 from by have := h119; rw [lg_cmp_le] at this; exact Int64.not_lt.mpr this), if_neg (show ¬ v4 < (-1000000 : Int64) from by have := h130; rw [lg_cmp_ge] at this; exact Int64.not_lt.mpr this)]), rfl⟩
          · refine x_ldc 135 (ab_dd tk_cl_workedBoth 66 rfl) rfl C_cl_122 ?_
            refine x_goto 140 (ab_dd tk_cl_workedBoth 67 rfl) (by decide) ?_
            exact x_iret (ab_dd tk_cl_workedBoth 70 rfl) ⟨rI (by unfold wkB; rw [if_neg (fun z => hT1 (by rw [z]; decide)), if_neg (fun z => hT1 (by rw [z]; decide)), if_neg (fun z => hT1 (by rw [z]; decide)), if_neg (fun z => hT1 (by rw [z]; decide)), if_neg (fun z => hT1 (by rw [z]; decide)), if_neg h90, if_neg h105]; unfold lwC; rw [← ev4, if_neg (show ¬ (1000000 : Int64) < v4 from by have := h119; rw [lg_cmp_le] at this; exact Int64.not_lt.mpr this), if_pos (show v4 < (-1000000 : Int64) from by have := h130; rw [lg_cmp_ge] at this; exact Int64.not_le.mp this)]; rfl), rfl⟩
        · refine x_ldc 124 (ab_dd tk_cl_workedBoth 60 rfl) rfl C_cl_119 (x_topn 1000000 rfl ?_)
          exact x_iret (ab_dd tk_cl_workedBoth 61 rfl) ⟨rI (by unfold wkB; rw [if_neg (fun z => hT1 (by rw [z]; decide)), if_neg (fun z => hT1 (by rw [z]; decide)), if_neg (fun z => hT1 (by rw [z]; decide)), if_neg (fun z => hT1 (by rw [z]; decide)), if_neg (fun z => hT1 (by rw [z]; decide)), if_neg h90, if_neg h105]; unfold lwC; rw [← ev4, if_pos (show (1000000 : Int64) < v4 from by have := h119; rw [lg_cmp_le] at this; exact Int64.not_le.mp this)]; rfl), rfl⟩
      · refine x_iload_n 109 1 (ab_dd tk_cl_workedBoth 50 rfl) rfl rfl rfl ?_
        refine x_i2l 110 (ab_dd tk_cl_workedBoth 51 rfl) rfl ?_
        refine x_iload_n 111 2 (ab_dd tk_cl_workedBoth 52 rfl) rfl rfl rfl ?_
        refine x_i2l 112 (ab_dd tk_cl_workedBoth 53 rfl) rfl ?_
        refine x_lsub 113 (ab_dd tk_cl_workedBoth 54 rfl) rfl ?_
        refine x_topl (fun v5 ev5 => ?_)
        refine x_lstore_n 114 [some (.int w), some (.int a), some (.int b), some (.long v5), none] 3 (ab_dd tk_cl_workedBoth 55 rfl) rfl rfl (by decide) rfl ?_
        refine x_lload_n 115 3 (ab_dd tk_cl_workedBoth 56 rfl) rfl rfl rfl ?_
        refine x_ldc2 118 (ab_dd tk_cl_workedBoth 57 rfl) rfl C_cl_117 ?_
        refine x_lcmp 119 (ab_dd tk_cl_workedBoth 58 rfl) rfl ?_
        refine x_if_le 122 125 (ab_dd tk_cl_workedBoth 59 rfl) rfl (by decide) (fun h119 => ?_) (fun h119 => ?_)
        · refine x_lload_n 126 3 (ab_dd tk_cl_workedBoth 62 rfl) rfl rfl rfl ?_
          refine x_ldc2 129 (ab_dd tk_cl_workedBoth 63 rfl) rfl C_cl_120 ?_
          refine x_lcmp 130 (ab_dd tk_cl_workedBoth 64 rfl) rfl ?_
          refine x_if_ge 133 138 (ab_dd tk_cl_workedBoth 65 rfl) rfl (by decide) (fun h130 => ?_) (fun h130 => ?_)
          · refine x_lload_n 139 3 (ab_dd tk_cl_workedBoth 68 rfl) rfl rfl rfl ?_
            refine x_l2i 140 (ab_dd tk_cl_workedBoth 69 rfl) rfl ?_
            exact x_iret (ab_dd tk_cl_workedBoth 70 rfl) ⟨rI (by unfold wkB; rw [if_neg (fun z => hT1 (by rw [z]; decide)), if_neg (fun z => hT1 (by rw [z]; decide)), if_neg (fun z => hT1 (by rw [z]; decide)), if_neg (fun z => hT1 (by rw [z]; decide)), if_neg (fun z => hT1 (by rw [z]; decide)), if_neg h90, if_pos h105]; unfold lwC; rw [← ev5, if_neg (show ¬ (1000000 : Int64) < v5 from by have := h119; rw [lg_cmp_le] at this; exact Int64.not_lt.mpr this), if_neg (show ¬ v5 < (-1000000 : Int64) from by have := h130; rw [lg_cmp_ge] at this; exact Int64.not_lt.mpr this)]), rfl⟩
          · refine x_ldc 135 (ab_dd tk_cl_workedBoth 66 rfl) rfl C_cl_122 ?_
            refine x_goto 140 (ab_dd tk_cl_workedBoth 67 rfl) (by decide) ?_
            exact x_iret (ab_dd tk_cl_workedBoth 70 rfl) ⟨rI (by unfold wkB; rw [if_neg (fun z => hT1 (by rw [z]; decide)), if_neg (fun z => hT1 (by rw [z]; decide)), if_neg (fun z => hT1 (by rw [z]; decide)), if_neg (fun z => hT1 (by rw [z]; decide)), if_neg (fun z => hT1 (by rw [z]; decide)), if_neg h90, if_pos h105]; unfold lwC; rw [← ev5, if_neg (show ¬ (1000000 : Int64) < v5 from by have := h119; rw [lg_cmp_le] at this; exact Int64.not_lt.mpr this), if_pos (show v5 < (-1000000 : Int64) from by have := h130; rw [lg_cmp_ge] at this; exact Int64.not_le.mp this)]; rfl), rfl⟩
        · refine x_ldc 124 (ab_dd tk_cl_workedBoth 60 rfl) rfl C_cl_119 (x_topn 1000000 rfl ?_)
          exact x_iret (ab_dd tk_cl_workedBoth 61 rfl) ⟨rI (by unfold wkB; rw [if_neg (fun z => hT1 (by rw [z]; decide)), if_neg (fun z => hT1 (by rw [z]; decide)), if_neg (fun z => hT1 (by rw [z]; decide)), if_neg (fun z => hT1 (by rw [z]; decide)), if_neg (fun z => hT1 (by rw [z]; decide)), if_neg h90, if_pos h105]; unfold lwC; rw [← ev5, if_pos (show (1000000 : Int64) < v5 from by have := h119; rw [lg_cmp_le] at this; exact Int64.not_le.mp this)]; rfl), rfl⟩
    · refine x_iload_n 94 1 (ab_dd tk_cl_workedBoth 40 rfl) rfl rfl rfl ?_
      refine x_i2l 95 (ab_dd tk_cl_workedBoth 41 rfl) rfl ?_
      refine x_iload_n 96 2 (ab_dd tk_cl_workedBoth 42 rfl) rfl rfl rfl ?_
      refine x_i2l 97 (ab_dd tk_cl_workedBoth 43 rfl) rfl ?_
      refine x_ladd 98 (ab_dd tk_cl_workedBoth 44 rfl) rfl ?_
      refine x_topl (fun v6 ev6 => ?_)
      refine x_lstore_n 99 [some (.int w), some (.int a), some (.int b), some (.long v6), none] 3 (ab_dd tk_cl_workedBoth 45 rfl) rfl rfl (by decide) rfl ?_
      refine x_goto 114 (ab_dd tk_cl_workedBoth 46 rfl) (by decide) ?_
      refine x_lload_n 115 3 (ab_dd tk_cl_workedBoth 56 rfl) rfl rfl rfl ?_
      refine x_ldc2 118 (ab_dd tk_cl_workedBoth 57 rfl) rfl C_cl_117 ?_
      refine x_lcmp 119 (ab_dd tk_cl_workedBoth 58 rfl) rfl ?_
      refine x_if_le 122 125 (ab_dd tk_cl_workedBoth 59 rfl) rfl (by decide) (fun h119 => ?_) (fun h119 => ?_)
      · refine x_lload_n 126 3 (ab_dd tk_cl_workedBoth 62 rfl) rfl rfl rfl ?_
        refine x_ldc2 129 (ab_dd tk_cl_workedBoth 63 rfl) rfl C_cl_120 ?_
        refine x_lcmp 130 (ab_dd tk_cl_workedBoth 64 rfl) rfl ?_
        refine x_if_ge 133 138 (ab_dd tk_cl_workedBoth 65 rfl) rfl (by decide) (fun h130 => ?_) (fun h130 => ?_)
        · refine x_lload_n 139 3 (ab_dd tk_cl_workedBoth 68 rfl) rfl rfl rfl ?_
          refine x_l2i 140 (ab_dd tk_cl_workedBoth 69 rfl) rfl ?_
          exact x_iret (ab_dd tk_cl_workedBoth 70 rfl) ⟨rI (by unfold wkB; rw [if_neg (fun z => hT1 (by rw [z]; decide)), if_neg (fun z => hT1 (by rw [z]; decide)), if_neg (fun z => hT1 (by rw [z]; decide)), if_neg (fun z => hT1 (by rw [z]; decide)), if_neg (fun z => hT1 (by rw [z]; decide)), if_pos h90]; unfold lwC; rw [← ev6, if_neg (show ¬ (1000000 : Int64) < v6 from by have := h119; rw [lg_cmp_le] at this; exact Int64.not_lt.mpr this), if_neg (show ¬ v6 < (-1000000 : Int64) from by have := h130; rw [lg_cmp_ge] at this; exact Int64.not_lt.mpr this)]), rfl⟩
        · refine x_ldc 135 (ab_dd tk_cl_workedBoth 66 rfl) rfl C_cl_122 ?_
          refine x_goto 140 (ab_dd tk_cl_workedBoth 67 rfl) (by decide) ?_
          exact x_iret (ab_dd tk_cl_workedBoth 70 rfl) ⟨rI (by unfold wkB; rw [if_neg (fun z => hT1 (by rw [z]; decide)), if_neg (fun z => hT1 (by rw [z]; decide)), if_neg (fun z => hT1 (by rw [z]; decide)), if_neg (fun z => hT1 (by rw [z]; decide)), if_neg (fun z => hT1 (by rw [z]; decide)), if_pos h90]; unfold lwC; rw [← ev6, if_neg (show ¬ (1000000 : Int64) < v6 from by have := h119; rw [lg_cmp_le] at this; exact Int64.not_lt.mpr this), if_pos (show v6 < (-1000000 : Int64) from by have := h130; rw [lg_cmp_ge] at this; exact Int64.not_le.mp this)]; rfl), rfl⟩
      · refine x_ldc 124 (ab_dd tk_cl_workedBoth 60 rfl) rfl C_cl_119 (x_topn 1000000 rfl ?_)
        exact x_iret (ab_dd tk_cl_workedBoth 61 rfl) ⟨rI (by unfold wkB; rw [if_neg (fun z => hT1 (by rw [z]; decide)), if_neg (fun z => hT1 (by rw [z]; decide)), if_neg (fun z => hT1 (by rw [z]; decide)), if_neg (fun z => hT1 (by rw [z]; decide)), if_neg (fun z => hT1 (by rw [z]; decide)), if_pos h90]; unfold lwC; rw [← ev6, if_pos (show (1000000 : Int64) < v6 from by have := h119; rw [lg_cmp_le] at this; exact Int64.not_le.mp this)]; rfl), rfl⟩
