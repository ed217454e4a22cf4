/-! ===== the numbers of a stand ===== -/
def mSe (c r : Nat) : Nat := c / 625 / 4 ^ r % 4
def mWa (c r : Nat) : Nat := c % 625 / 5 ^ r % 5
theorem mSe_lt (c r : Nat) : mSe c r < 4 := Nat.mod_lt _ (by decide)
theorem mWa_lt (c r : Nat) : mWa c r < 5 := Nat.mod_lt _ (by decide)
theorem r4 {P : Nat → Prop} (h0 : P 0) (h1 : P 1) (h2 : P 2) (h3 : P 3) : ∀ r, r < 4 → P r
  | 0, _ => h0
  | 1, _ => h1
  | 2, _ => h2
  | 3, _ => h3
  | r + 4, h => absurd h (by omega)
theorem mPl_N : ∀ r, r < 4 → mPl (nI r) = nI (5 ^ r) := by decide +kernel
theorem mSe_N {c : Nat} (hc : c < 160000) : ∀ r, r < 4 → (nI c / 625) >>> ((2 * nI r) &&& 31) &&& 3 = nI (mSe c r) := by
  have key : ∀ (s : Int32) (k : Nat), (s.toBitVec.smod 32).toNat = k → (nI c / 625) >>> s &&& 3 = nI (c / 625 / 2 ^ k % 2 ^ 2) := by
    intro s k hs
    rw [show (625 : Int32) = nI 625 from rfl, pk_div (by omega) (by decide) (by decide), pk_shrN (by have := Nat.div_le_self c 625; omega) s k hs, pk_andN (by have h1 := Nat.div_le_self (c / 625) (2 ^ k); have h2 := Nat.div_le_self c 625; omega) 2 (by decide)]
  refine r4 ?_ ?_ ?_ ?_
  · exact key _ 0 (by decide)
  · exact key _ 2 (by decide)
  · exact key _ 4 (by decide)
  · exact key _ 6 (by decide)
theorem p5_pos (r : Nat) : 0 < 5 ^ r := Nat.pow_pos (by decide)
theorem p5_le : ∀ r, r < 4 → 5 ^ r ≤ 125 := by decide
theorem mWa_N {c : Nat} (hc : c < 160000) (r : Nat) (hr : r < 4) : (nI c - nI c / 625 * 625) / mPl (nI r) - (nI c - nI c / 625 * 625) / mPl (nI r) / 5 * 5 = nI (mWa c r) := by
  have h5 := p5_le r hr
  have hm : c % 625 < 625 := Nat.mod_lt _ (by decide)
  have hd := Nat.div_le_self (c % 625) (5 ^ r)
  rw [mPl_N r hr, show (625 : Int32) = nI 625 from rfl, show (5 : Int32) = nI 5 from rfl, pk_rem (by omega) (by decide) (by decide), pk_div (by omega) (p5_pos r) (by omega), pk_rem (by omega) (by decide) (by decide)]
  rfl
theorem w_placeOf {G : ab_G} (w : ab_H) (r : Nat) (hr : r < 4) : ab_C G 0 M_m_placeOf [.int (nI r)] w (fun v w' => v = some (.int (nI (5 ^ r))) ∧ w' = w) := (c_m_placeOf (nI r) w).mono (fun v w' h => ⟨by rw [h.1]; exact congrArg (fun z => some (Value.int z)) (mPl_N r hr), h.2⟩)
theorem w_seatIn {G : ab_G} (w : ab_H) (c r : Nat) (hc : c < 160000) (hr : r < 4) : ab_C G 0 M_m_seatIn [.int (nI c), .int (nI r)] w (fun v w' => v = some (.int (nI (mSe c r))) ∧ w' = w) := (c_m_seatIn (nI c) (nI r) w).mono (fun v w' h => ⟨by rw [h.1, mSe_N hc r hr], h.2⟩)
theorem w_warmthIn {G : ab_G} (w : ab_H) (c r : Nat) (hc : c < 160000) (hr : r < 4) : ab_C G 1 M_m_warmthIn [.int (nI c), .int (nI r)] w (fun v w' => v = some (.int (nI (mWa c r))) ∧ w' = w) := (c_m_warmthIn (nI c) (nI r) w).mono (fun v w' h => ⟨by rw [h.1, mWa_N hc r hr], h.2⟩)
/-- the number with another warmth of r -/
def mWi (c r x : Nat) : Nat := c - 5 ^ r * mWa c r + 5 ^ r * x
theorem mWa_le (c r : Nat) : 5 ^ r * mWa c r ≤ c := by
  have h1 : 5 ^ r * mWa c r ≤ 5 ^ r * (c % 625 / 5 ^ r) := Nat.mul_le_mul_left _ (Nat.mod_le _ _)
  have h2 : 5 ^ r * (c % 625 / 5 ^ r) ≤ c % 625 := Nat.mul_div_le _ _
  have h3 : c % 625 ≤ c := Nat.mod_le _ _
  omega
theorem mWi_N {c r x : Nat} (hc : c < 160000) (hr : r < 4) (hx : x < 5) : nI c + nI (5 ^ r) * (nI x - nI (mWa c r)) = nI (mWi c r x) := by
  have h0 := mWa_le c r
  have e : nI (mWi c r x) + nI (5 ^ r) * nI (mWa c r) = nI c + nI (5 ^ r) * nI x := by
    rw [pk_mul, pk_mul, nI_add, nI_add]
    congr 1
    unfold mWi
    omega
  have g : ∀ X Y Z W : Int32, W + Z = X + Y → X + (Y - Z) = W := by
    intro X Y Z W h
    rw [Int32.sub_eq_add_neg, ← Int32.add_assoc, ← h, ← Int32.sub_eq_add_neg, Int32.add_sub_cancel]
  rw [Int32.mul_sub]
  exact g _ _ _ _ e
def tb_m_withWarmth : List (Nat × Instr × Nat) := [(0, .iload_n 0, 1), (1, .iload_n 1, 1), (2, .invokestatic 225, 3), (5, .iload_n 2, 1), (6, .iload_n 0, 1), (7, .iload_n 1, 1), (8, .invokestatic 228, 3), (11, .isub, 1), (12, .imul, 1), (13, .iadd, 1), (14, .ireturn, 1)]
theorem tk_m_withWarmth : ∀ q ∈ tb_m_withWarmth, decode M_m_withWarmth.2.1 q.1 = .ok q.2 := by decide +kernel
theorem c_m_withWarmth {G : ab_G} {S : ab_S} (c r x : Nat) (hc : c < 160000) (hr : r < 4) (hx : x < 5) : ab_C G 2 M_m_withWarmth [.int (nI c), .int (nI r), .int (nI x)] (sw S) (fun v w' => v = some (.int (nI (mWi c r x))) ∧ w' = sw S) := by
  refine x_enter [some (.int (nI c)), some (.int (nI r)), some (.int (nI x))] (by decide) (Nat.le_of_ble_eq_true rfl) rfl (fun v w' h => by obtain ⟨rfl, rfl⟩ := h; rfl) ?_
  refine x_iload_n 1 0 (ab_dd tk_m_withWarmth 0 rfl) rfl rfl rfl ?_
  refine x_iload_n 2 1 (ab_dd tk_m_withWarmth 1 rfl) rfl rfl rfl ?_
  refine x_callS 5 M_m_placeOf 0 1 [_] (ab_dd tk_m_withWarmth 2 rfl) rfl (by decide) K_m_placeOf T_m_placeOf L_m_225 rfl (Nat.le_of_ble_eq_true rfl) (w_placeOf _ r hr) (fun v1 w1 h1 => ?_)
  obtain ⟨rfl, rfl⟩ := h1
  refine x_iload_n 6 2 (ab_dd tk_m_withWarmth 3 rfl) rfl rfl rfl ?_
  refine x_iload_n 7 0 (ab_dd tk_m_withWarmth 4 rfl) rfl rfl rfl ?_
  refine x_iload_n 8 1 (ab_dd tk_m_withWarmth 5 rfl) rfl rfl rfl ?_
  refine x_callS 11 M_m_warmthIn 1 2 [_, _] (ab_dd tk_m_withWarmth 6 rfl) rfl (by decide) K_m_warmthIn T_m_warmthIn L_m_228 rfl (Nat.le_of_ble_eq_true rfl) (w_warmthIn _ c r hc hr) (fun v1 w1 h1 => ?_)
  obtain ⟨rfl, rfl⟩ := h1
  refine x_isub 12 (ab_dd tk_m_withWarmth 7 rfl) rfl ?_
  refine x_imul 13 (ab_dd tk_m_withWarmth 8 rfl) rfl ?_
  refine x_iadd 14 (ab_dd tk_m_withWarmth 9 rfl) rfl ?_
  exact x_iret (ab_dd tk_m_withWarmth 10 rfl) ⟨by rw [mWi_N hc hr hx], rfl⟩
def lwC (v : Int64) : Int64 := if 1000000 < v then 1000000 else if v < -1000000 then -1000000 else v
/-- two numbers worked together, by the reference's code -/
def lwB (k a b : Int32) : Int32 := if k = 3003 then (if a = b then 1 else 0) else if k = 3004 then (if a < b then 1 else 0) else if k = 3005 then (if b < a then 1 else 0) else if k = 3007 then a &&& b else if k = 3008 then a ||| b else (lwC (if k = 3000 then a.toInt64 + b.toInt64 else if k = 3001 then a.toInt64 - b.toInt64 else a.toInt64 * b.toInt64)).toInt32
theorem toInt_ne {x : Int32} {n : Int} {y : Int32} (h : x.toInt ≠ y.toInt) : x ≠ y := fun e => h (by rw [e])
theorem of_toInt {x y : Int32} (h : x.toInt = y.toInt) : x = y := Int32.toInt_inj.mp h
def tb_m_between : List (Nat × Instr × Nat) := [(0, .iload_n 0, 1), (1, .tableswitch 80 3003 3008 #[39, 50, 61, 80, 72, 76], 39), (40, .iload_n 1, 1), (41, .iload_n 2, 1), (42, .if_icmp .ne 7, 3), (45, .iconst 1, 1), (46, .goto 4, 3), (49, .iconst 0, 1), (50, .ireturn, 1), (51, .iload_n 1, 1), (52, .iload_n 2, 1), (53, .if_icmp .ge 7, 3), (56, .iconst 1, 1), (57, .goto 4, 3), (60, .iconst 0, 1), (61, .ireturn, 1), (62, .iload_n 1, 1), (63, .iload_n 2, 1), (64, .if_icmp .le 7, 3), (67, .iconst 1, 1), (68, .goto 4, 3), (71, .iconst 0, 1), (72, .ireturn, 1), (73, .iload_n 1, 1), (74, .iload_n 2, 1), (75, .iand, 1), (76, .ireturn, 1), (77, .iload_n 1, 1), (78, .iload_n 2, 1), (79, .ior, 1), (80, .ireturn, 1), (81, .iload_n 0, 1), (82, .sipush 3000, 3), (85, .if_icmp .ne 11, 3), (88, .iload_n 1, 1), (89, .i2l, 1), (90, .iload_n 2, 1), (91, .i2l, 1), (92, .ladd, 1), (93, .goto 23, 3), (96, .iload_n 0, 1), (97, .sipush 3001, 3), (100, .if_icmp .ne 11, 3), (103, .iload_n 1, 1), (104, .i2l, 1), (105, .iload_n 2, 1), (106, .i2l, 1), (107, .lsub, 1), (108, .goto 8, 3), (111, .iload_n 1, 1), (112, .i2l, 1), (113, .iload_n 2, 1), (114, .i2l, 1), (115, .lmul, 1), (116, .lstore_n 3, 1), (117, .lload_n 3, 1), (118, .ldc2_w 234, 3), (121, .lcmp, 1), (122, .ifCond .le 9, 3), (125, .ldc2_w 234, 3), (128, .goto 18, 3), (131, .lload_n 3, 1), (132, .ldc2_w 236, 3), (135, .lcmp, 1), (136, .ifCond .ge 9, 3), (139, .ldc2_w 236, 3), (142, .goto 4, 3), (145, .lload_n 3, 1), (146, .l2i, 1), (147, .ireturn, 1)]
theorem tk_m_between : ∀ q ∈ tb_m_between, decode M_m_between.2.1 q.1 = .ok q.2 := by decide +kernel
theorem c_m_between {G : ab_G} (w : ab_H) (k a b : Int32) : ab_C G 0 M_m_between [.int k, .int a, .int b] w (fun v w' => v = some (.int (lwB k a b)) ∧ w' = w) := by
  refine x_enter [some (.int k), some (.int a), some (.int b), none, none] (by decide) (Nat.le_of_ble_eq_true rfl) rfl (fun v w' h => by obtain ⟨rfl, rfl⟩ := h; rfl) ?_
  have fin : ∀ v : Int64, (lwC v).toInt32 = lwB k a b → ab_Ex G 0 M_m_between 116 [some (.int k), some (.int a), some (.int b), none, none] [.long v] w (fun r w' => r = some (.int (lwB k a b)) ∧ w' = w) := by
    intro v hv
    refine x_topl (fun v1 ev1 => ?_)
    refine x_lstore_n 117 [some (.int k), some (.int a), some (.int b), some (.long v1), none] 3 (ab_dd tk_m_between 54 rfl) rfl rfl (by decide) rfl ?_
    refine x_lload_n 118 3 (ab_dd tk_m_between 55 rfl) rfl rfl rfl ?_
    refine x_ldc2 121 (ab_dd tk_m_between 56 rfl) rfl C_m_234 ?_
    refine x_lcmp 122 (ab_dd tk_m_between 57 rfl) rfl ?_
    refine x_if_le 125 131 (ab_dd tk_m_between 58 rfl) rfl (by decide) (fun h122 => ?_) (fun h122 => ?_)
    · refine x_lload_n 132 3 (ab_dd tk_m_between 61 rfl) rfl rfl rfl ?_
      refine x_ldc2 135 (ab_dd tk_m_between 62 rfl) rfl C_m_236 ?_
      refine x_lcmp 136 (ab_dd tk_m_between 63 rfl) rfl ?_
      refine x_if_ge 139 145 (ab_dd tk_m_between 64 rfl) rfl (by decide) (fun h136 => ?_) (fun h136 => ?_)
      · refine x_lload_n 146 3 (ab_dd tk_m_between 67 rfl) rfl rfl rfl ?_
        refine x_l2i 147 (ab_dd tk_m_between 68 rfl) rfl ?_
        exact x_iret (ab_dd tk_m_between 69 rfl) ⟨by subst ev1; rw [← hv]; unfold lwC; rw [if_neg (Int64.not_lt.mpr ((lg_cmp_le _ _).mp h122)), if_neg (Int64.not_lt.mpr ((lg_cmp_ge _ _).mp h136))], rfl⟩
      · refine x_ldc2 142 (ab_dd tk_m_between 65 rfl) rfl C_m_236 ?_
        refine x_goto 146 (ab_dd tk_m_between 66 rfl) (by decide) ?_
        refine x_l2i 147 (ab_dd tk_m_between 68 rfl) rfl ?_
        exact x_iret (ab_dd tk_m_between 69 rfl) ⟨by subst ev1; rw [← hv]; unfold lwC; rw [if_neg (Int64.not_lt.mpr ((lg_cmp_le _ _).mp h122)), if_pos (Int64.not_le.mp (fun z => h136 ((lg_cmp_ge _ _).mpr z)))], rfl⟩
    · refine x_ldc2 128 (ab_dd tk_m_between 59 rfl) rfl C_m_234 ?_
      refine x_goto 146 (ab_dd tk_m_between 60 rfl) (by decide) ?_
      refine x_l2i 147 (ab_dd tk_m_between 68 rfl) rfl ?_
      exact x_iret (ab_dd tk_m_between 69 rfl) ⟨by subst ev1; rw [← hv]; unfold lwC; rw [if_pos (Int64.not_le.mp (fun z => h122 ((lg_cmp_le _ _).mpr z)))], rfl⟩
  have tail : ¬ k = 3003 → ¬ k = 3004 → ¬ k = 3005 → ¬ k = 3007 → ¬ k = 3008 → ab_Ex G 0 M_m_between 81 [some (.int k), some (.int a), some (.int b), none, none] [] w (fun r w' => r = some (.int (lwB k a b)) ∧ w' = w) := by
    intro n3 n4 n5 n7 n8
    refine x_iload_n 82 0 (ab_dd tk_m_between 31 rfl) rfl rfl rfl ?_
    refine x_sipush 85 3000 (ab_dd tk_m_between 32 rfl) rfl (by decide) ?_
    refine x_icmp_ne 88 96 (ab_dd tk_m_between 33 rfl) rfl (by decide) (fun h85 => ?_) (fun h85 => ?_)
    · refine x_iload_n 97 0 (ab_dd tk_m_between 40 rfl) rfl rfl rfl ?_
      refine x_sipush 100 3001 (ab_dd tk_m_between 41 rfl) rfl (by decide) ?_
      refine x_icmp_ne 103 111 (ab_dd tk_m_between 42 rfl) rfl (by decide) (fun h100 => ?_) (fun h100 => ?_)
      · refine x_iload_n 112 1 (ab_dd tk_m_between 49 rfl) rfl rfl rfl ?_
        refine x_i2l 113 (ab_dd tk_m_between 50 rfl) rfl ?_
        refine x_iload_n 114 2 (ab_dd tk_m_between 51 rfl) rfl rfl rfl ?_
        refine x_i2l 115 (ab_dd tk_m_between 52 rfl) rfl ?_
        refine x_lmul 116 (ab_dd tk_m_between 53 rfl) rfl ?_
        exact fin _ (by simp_all [lwB])
      · refine x_iload_n 104 1 (ab_dd tk_m_between 43 rfl) rfl rfl rfl ?_
        refine x_i2l 105 (ab_dd tk_m_between 44 rfl) rfl ?_
        refine x_iload_n 106 2 (ab_dd tk_m_between 45 rfl) rfl rfl rfl ?_
        refine x_i2l 107 (ab_dd tk_m_between 46 rfl) rfl ?_
        refine x_lsub 108 (ab_dd tk_m_between 47 rfl) rfl ?_
        refine x_goto 116 (ab_dd tk_m_between 48 rfl) (by decide) ?_
        exact fin _ (by simp_all [lwB])
    · refine x_iload_n 89 1 (ab_dd tk_m_between 34 rfl) rfl rfl rfl ?_
      refine x_i2l 90 (ab_dd tk_m_between 35 rfl) rfl ?_
      refine x_iload_n 91 2 (ab_dd tk_m_between 36 rfl) rfl rfl rfl ?_
      refine x_i2l 92 (ab_dd tk_m_between 37 rfl) rfl ?_
      refine x_ladd 93 (ab_dd tk_m_between 38 rfl) rfl ?_
      refine x_goto 116 (ab_dd tk_m_between 39 rfl) (by decide) ?_
      exact fin _ (by simp_all [lwB])
  refine x_iload_n 1 0 (ab_dd tk_m_between 0 rfl) rfl rfl rfl ?_
  by_cases hT1 : (3003 : Int) ≤ Int32.toInt k ∧ Int32.toInt k ≤ (3008 : Int)
  · have hc1 : Int32.toInt k = (3003 : Int) ∨ Int32.toInt k = (3004 : Int) ∨ Int32.toInt k = (3005 : Int) ∨ Int32.toInt k = (3006 : Int) ∨ Int32.toInt k = (3007 : Int) ∨ Int32.toInt k = (3008 : Int) := by omega
    rcases hc1 with hc1 | hc1 | hc1 | hc1 | hc1 | hc1
    · refine x_tableIn 40 (ab_dd tk_m_between 1 rfl) (by omega) (by omega) (by rw [hc1]; rfl) (by decide) ?_
      refine x_iload_n 41 1 (ab_dd tk_m_between 2 rfl) rfl rfl rfl ?_
      refine x_iload_n 42 2 (ab_dd tk_m_between 3 rfl) rfl rfl rfl ?_
      refine x_icmp_ne 45 49 (ab_dd tk_m_between 4 rfl) rfl (by decide) (fun h42 => ?_) (fun h42 => ?_)
      · refine x_iconst 50 0 (ab_dd tk_m_between 7 rfl) rfl (by decide) ?_
        exact x_iret (ab_dd tk_m_between 8 rfl) ⟨by rw [of_toInt (y := 3003) hc1]; simp_all [lwB, Int32.not_le, Int32.not_lt], rfl⟩
      · refine x_iconst 46 1 (ab_dd tk_m_between 5 rfl) rfl (by decide) ?_
        refine x_goto 50 (ab_dd tk_m_between 6 rfl) (by decide) ?_
        exact x_iret (ab_dd tk_m_between 8 rfl) ⟨by rw [of_toInt (y := 3003) hc1]; simp_all [lwB, Int32.not_le, Int32.not_lt], rfl⟩
    · refine x_tableIn 51 (ab_dd tk_m_between 1 rfl) (by omega) (by omega) (by rw [hc1]; rfl) (by decide) ?_
      refine x_iload_n 52 1 (ab_dd tk_m_between 9 rfl) rfl rfl rfl ?_
      refine x_iload_n 53 2 (ab_dd tk_m_between 10 rfl) rfl rfl rfl ?_
      refine x_icmp_ge 56 60 (ab_dd tk_m_between 11 rfl) rfl (by decide) (fun h53 => ?_) (fun h53 => ?_)
      · refine x_iconst 61 0 (ab_dd tk_m_between 14 rfl) rfl (by decide) ?_
        exact x_iret (ab_dd tk_m_between 15 rfl) ⟨by rw [of_toInt (y := 3004) hc1]; simp_all [lwB, Int32.not_le, Int32.not_lt], rfl⟩
      · refine x_iconst 57 1 (ab_dd tk_m_between 12 rfl) rfl (by decide) ?_
        refine x_goto 61 (ab_dd tk_m_between 13 rfl) (by decide) ?_
        exact x_iret (ab_dd tk_m_between 15 rfl) ⟨by rw [of_toInt (y := 3004) hc1]; simp_all [lwB, Int32.not_le, Int32.not_lt], rfl⟩
    · refine x_tableIn 62 (ab_dd tk_m_between 1 rfl) (by omega) (by omega) (by rw [hc1]; rfl) (by decide) ?_
      refine x_iload_n 63 1 (ab_dd tk_m_between 16 rfl) rfl rfl rfl ?_
      refine x_iload_n 64 2 (ab_dd tk_m_between 17 rfl) rfl rfl rfl ?_
      refine x_icmp_le 67 71 (ab_dd tk_m_between 18 rfl) rfl (by decide) (fun h64 => ?_) (fun h64 => ?_)
      · refine x_iconst 72 0 (ab_dd tk_m_between 21 rfl) rfl (by decide) ?_
        exact x_iret (ab_dd tk_m_between 22 rfl) ⟨by rw [of_toInt (y := 3005) hc1]; simp_all [lwB, Int32.not_le, Int32.not_lt], rfl⟩
      · refine x_iconst 68 1 (ab_dd tk_m_between 19 rfl) rfl (by decide) ?_
        refine x_goto 72 (ab_dd tk_m_between 20 rfl) (by decide) ?_
        exact x_iret (ab_dd tk_m_between 22 rfl) ⟨by rw [of_toInt (y := 3005) hc1]; simp_all [lwB, Int32.not_le, Int32.not_lt], rfl⟩
    · refine x_tableIn 81 (ab_dd tk_m_between 1 rfl) (by omega) (by omega) (by rw [hc1]; rfl) (by decide) ?_
      exact tail (fun e => absurd hc1 (by rw [e]; decide)) (fun e => absurd hc1 (by rw [e]; decide)) (fun e => absurd hc1 (by rw [e]; decide)) (fun e => absurd hc1 (by rw [e]; decide)) (fun e => absurd hc1 (by rw [e]; decide))
    · refine x_tableIn 73 (ab_dd tk_m_between 1 rfl) (by omega) (by omega) (by rw [hc1]; rfl) (by decide) ?_
      refine x_iload_n 74 1 (ab_dd tk_m_between 23 rfl) rfl rfl rfl ?_
      refine x_iload_n 75 2 (ab_dd tk_m_between 24 rfl) rfl rfl rfl ?_
      refine x_iand 76 (ab_dd tk_m_between 25 rfl) rfl ?_
      exact x_iret (ab_dd tk_m_between 26 rfl) ⟨by rw [of_toInt (y := 3007) hc1]; simp_all [lwB, Int32.not_le, Int32.not_lt], rfl⟩
    · refine x_tableIn 77 (ab_dd tk_m_between 1 rfl) (by omega) (by omega) (by rw [hc1]; rfl) (by decide) ?_
      refine x_iload_n 78 1 (ab_dd tk_m_between 27 rfl) rfl rfl rfl ?_
      refine x_iload_n 79 2 (ab_dd tk_m_between 28 rfl) rfl rfl rfl ?_
      refine x_ior 80 (ab_dd tk_m_between 29 rfl) rfl ?_
      exact x_iret (ab_dd tk_m_between 30 rfl) ⟨by rw [of_toInt (y := 3008) hc1]; simp_all [lwB, Int32.not_le, Int32.not_lt], rfl⟩
  · refine x_tableOut 81 (ab_dd tk_m_between 1 rfl) (by omega) (by decide) ?_
    exact tail (fun e => hT1 (by rw [e]; decide)) (fun e => hT1 (by rw [e]; decide)) (fun e => hT1 (by rw [e]; decide)) (fun e => hT1 (by rw [e]; decide)) (fun e => hT1 (by rw [e]; decide))
