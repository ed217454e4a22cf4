/-! ===== warmsTo, mayGo ===== -/
theorem d1 : ∀ a, a < 4 → ∀ b, b < 4 → ((nI a - nI b = 1) ↔ a = b + 1) := by decide +kernel
theorem d2 : ∀ a, a < 4 → ∀ b, b < 4 → ((nI a - nI b = -1) ↔ b = a + 1) := by decide +kernel
theorem cl4_N (x : Int32) : nI (cl4 x) = if x < 0 then 0 else if 4 < x then 4 else x := by
  unfold cl4
  split
  · rfl
  · split
    · rfl
    · rename_i h1 h2
      obtain ⟨j, hj, e⟩ := nI_of2 (M := 4) (n := 4) (by decide) h1 (Int32.not_lt.mp h2)
      rw [e, cN_nI (by omega)]
def tb_m_warmsTo : List (Nat × Instr × Nat) := [(0, .iconst 0, 1), (1, .istore 4, 2), (3, .iconst 0, 1), (4, .istore 5, 2), (6, .iconst 0, 1), (7, .istore 6, 2), (9, .iconst 0, 1), (10, .istore 7, 2), (12, .iload 7, 2), (14, .aload_n 0, 1), (15, .getfield 13, 3), (18, .iconst 1, 1), (19, .iaload, 1), (20, .if_icmp .ge 84, 3), (23, .iload_n 1, 1), (24, .iload 7, 2), (26, .invokestatic 231, 3), (29, .iload_n 1, 1), (30, .iload_n 2, 1), (31, .invokestatic 231, 3), (34, .isub, 1), (35, .istore 8, 2), (37, .iload 8, 2), (39, .iconst 1, 1), (40, .if_icmp .eq 12, 3), (43, .iload 8, 2), (45, .iconst (-1), 1), (46, .if_icmp .eq 6, 3), (49, .goto 49, 3), (52, .iinc 4 1, 3), (55, .iload 5, 2), (57, .iload_n 1, 1), (58, .iload 7, 2), (60, .invokestatic 228, 3), (63, .iadd, 1), (64, .istore 5, 2), (66, .iload 6, 2), (68, .aload_n 0, 1), (69, .getfield 13, 3), (72, .bipush 28, 2), (74, .iload 7, 2), (76, .iadd, 1), (77, .iaload, 1), (78, .aload_n 0, 1), (79, .getfield 13, 3), (82, .bipush 28, 2), (84, .iload_n 2, 1), (85, .iadd, 1), (86, .iaload, 1), (87, .if_icmp .ne 7, 3), (90, .iconst 1, 1), (91, .goto 4, 3), (94, .iconst 0, 1), (95, .iadd, 1), (96, .istore 6, 2), (98, .iinc 7 1, 3), (101, .goto (-89), 3), (104, .iload_n 1, 1), (105, .iload_n 2, 1), (106, .invokestatic 228, 3), (109, .istore 7, 2), (111, .iload 5, 2), (113, .iload 7, 2), (115, .iload 4, 2), (117, .imul, 1), (118, .if_icmp .le 10, 3), (121, .iload 7, 2), (123, .iconst 1, 1), (124, .iadd, 1), (125, .goto 22, 3), (128, .iload 5, 2), (130, .iload 7, 2), (132, .iload 4, 2), (134, .imul, 1), (135, .if_icmp .ge 10, 3), (138, .iload 7, 2), (140, .iconst 1, 1), (141, .isub, 1), (142, .goto 5, 3), (145, .iload 7, 2), (147, .istore 8, 2), (149, .aload_n 0, 1), (150, .getfield 13, 3), (153, .iconst 2, 1), (154, .iaload, 1), (155, .iconst 1, 1), (156, .if_icmp .ne 45, 3), (159, .aload_n 0, 1), (160, .getfield 33, 3), (163, .bipush 6, 2), (165, .iload 4, 2), (167, .iastore, 1), (168, .aload_n 0, 1), (169, .getfield 33, 3), (172, .bipush 7, 2), (174, .iload 5, 2), (176, .iastore, 1), (177, .aload_n 0, 1), (178, .getfield 33, 3), (181, .bipush 8, 2), (183, .iload 6, 2), (185, .iastore, 1), (186, .aload_n 0, 1), (187, .iconst 0, 1), (188, .iload_n 1, 1), (189, .iload_n 2, 1), (190, .iload_n 1, 1), (191, .iload_n 2, 1), (192, .invokestatic 231, 3), (195, .iload_n 3, 1), (196, .invokevirtual 241, 3), (199, .istore 8, 2), (201, .iload 8, 2), (203, .ifCond .ge 7, 3), (206, .iconst 0, 1), (207, .goto 15, 3), (210, .iload 8, 2), (212, .iconst 4, 1), (213, .if_icmp .le 7, 3), (216, .iconst 4, 1), (217, .goto 5, 3), (220, .iload 8, 2), (222, .ireturn, 1)]
theorem tk_m_warmsTo : ∀ q ∈ tb_m_warmsTo, decode M_m_warmsTo.2.1 q.1 = .ok q.2 := by decide +kernel
theorem c_m_warmsTo {G : ab_G} {S : ab_S} (hm : mSh S) (hv : mV S) (hl : mLw S) (c r : Nat) (mo : Int32) (hc : c < 160000) (hr : r < 4) : ab_C G 3 M_m_warmsTo [.ref 120, .int (nI c), .int (nI r), .int mo] (sw S) (fun v w' => ∃ S', w' = sw S' ∧ sEq [125, 126] S S' ∧ v = some (.int (nI (spT (mWl S) (mSea S) (mCls S) (mR S) mo c r)))) := by
  refine x_enter [some (.ref 120), some (.int (nI c)), some (.int (nI r)), some (.int mo), none, none, none, none, none] (by decide) (Nat.le_of_ble_eq_true rfl) rfl (fun v w' h => by obtain ⟨S', rfl, -, rfl⟩ := h; rfl) ?_
  have hR4 := hv.1.2
  have fin : ∀ (S' : ab_S) (b h s ow x : Int32), sEq [125, 126] S S' → cl4 x = spT (mWl S) (mSea S) (mCls S) (mR S) mo c r → ab_Ex G 3 M_m_warmsTo 201 [some (.ref 120), some (.int (nI c)), some (.int (nI r)), some (.int mo), some (.int b), some (.int h), some (.int s), some (.int ow), some (.int x)] [] (sw S') (fun v w' => ∃ S', w' = sw S' ∧ sEq [125, 126] S S' ∧ v = some (.int (nI (spT (mWl S) (mSea S) (mCls S) (mR S) mo c r)))) := by
    intro S' b h s ow x hE hx
    rw [← hx]
    refine x_iload 203 8 (ab_dd tk_m_warmsTo 112 rfl) rfl rfl ?_
    refine x_if_ge 206 210 (ab_dd tk_m_warmsTo 113 rfl) rfl (by decide) (fun h203 => ?_) (fun h203 => ?_)
    · refine x_iload 212 8 (ab_dd tk_m_warmsTo 116 rfl) rfl rfl ?_
      refine x_iconst 213 4 (ab_dd tk_m_warmsTo 117 rfl) rfl (by decide) ?_
      refine x_icmp_le 216 220 (ab_dd tk_m_warmsTo 118 rfl) rfl (by decide) (fun h213 => ?_) (fun h213 => ?_)
      · refine x_iload 222 8 (ab_dd tk_m_warmsTo 121 rfl) rfl rfl ?_
        exact x_iret (ab_dd tk_m_warmsTo 122 rfl) ⟨S', rfl, hE, by rw [cl4_N, if_neg (Int32.not_lt.mpr h203), if_neg (Int32.not_lt.mpr h213)]⟩
      · refine x_iconst 217 4 (ab_dd tk_m_warmsTo 119 rfl) rfl (by decide) ?_
        refine x_goto 222 (ab_dd tk_m_warmsTo 120 rfl) (by decide) ?_
        exact x_iret (ab_dd tk_m_warmsTo 122 rfl) ⟨S', rfl, hE, by rw [cl4_N, if_neg (Int32.not_lt.mpr h203), if_pos (Int32.not_le.mp h213)]⟩
    · refine x_iconst 207 0 (ab_dd tk_m_warmsTo 114 rfl) rfl (by decide) ?_
      refine x_goto 222 (ab_dd tk_m_warmsTo 115 rfl) (by decide) ?_
      exact x_iret (ab_dd tk_m_warmsTo 122 rfl) ⟨S', rfl, hE, by rw [cl4_N, if_pos (Int32.not_le.mp h203)]⟩
  generalize hbh : spB (mSea S) c r (mR S) = bh
  have hb1 := spB_le (mSea S) c r (mR S)
  rw [hbh] at hb1
  have hwa := mWa_lt c r
  have tail : ∀ x : Int32, x = (if mWa c r * bh.1 < bh.2.1 then nI (mWa c r) + 1 else if bh.2.1 < mWa c r * bh.1 then nI (mWa c r) - 1 else nI (mWa c r)) → ab_Ex G 3 M_m_warmsTo 149 [some (.ref 120), some (.int (nI c)), some (.int (nI r)), some (.int mo), some (.int (nI bh.1)), some (.int (nI bh.2.1)), some (.int (nI bh.2.2)), some (.int (nI (mWa c r))), some (.int x)] [] (sw S) (fun v w' => ∃ S', w' = sw S' ∧ sEq [125, 126] S S' ∧ v = some (.int (nI (spT (mWl S) (mSea S) (mCls S) (mR S) mo c r)))) := by
    intro x hx
    refine x_aload_n 150 0 (ab_dd tk_m_warmsTo 81 rfl) rfl rfl rfl ?_
    refine t_getP 153 121 (ab_dd tk_m_warmsTo 82 rfl) rfl F_m_13 (by decide) (Nat.lt_of_lt_of_le (by decide) hm.1) (hm.2.1 0 (by decide)) rfl (hm.2.2 1 (by decide)) ?_
    refine x_iconst 154 2 (ab_dd tk_m_warmsTo 83 rfl) rfl (by decide) ?_
    refine t_iald 155 2 (ab_dd tk_m_warmsTo 84 rfl) rfl (by decide) (Nat.lt_of_lt_of_le (by decide) hm.1) (hm.2.1 1 (by decide)) (by decide) (by decide) (by decide) ?_
    refine x_iconst 156 1 (ab_dd tk_m_warmsTo 85 rfl) rfl (by decide) ?_
    refine x_icmp_ne 159 201 (ab_dd tk_m_warmsTo 86 rfl) rfl (by decide) (fun h156 => ?_) (fun h156 => ?_)
    · exact fin S _ _ _ _ x sEq.rf (by rw [hx]; unfold spT mWl; rw [if_neg h156, hbh])
    · refine x_aload_n 160 0 (ab_dd tk_m_warmsTo 87 rfl) rfl rfl rfl ?_
      refine t_getP 163 126 (ab_dd tk_m_warmsTo 88 rfl) rfl F_m_33 (by decide) (Nat.lt_of_lt_of_le (by decide) hm.1) (hm.2.1 0 (by decide)) rfl (hm.2.2 17 (by decide)) ?_
      refine x_bipush 165 6 (ab_dd tk_m_warmsTo 89 rfl) rfl (by decide) ?_
      refine x_iload 167 4 (ab_dd tk_m_warmsTo 90 rfl) rfl rfl ?_
      refine t_iast 168 6 (ab_dd tk_m_warmsTo 91 rfl) rfl (by decide) (Nat.lt_of_lt_of_le (by decide) hm.1) (hm.2.1 6 (by decide)) (by decide) (by decide) (by decide) ?_
      refine x_aload_n 169 0 (ab_dd tk_m_warmsTo 92 rfl) rfl rfl rfl ?_
      refine t_getP 172 126 (ab_dd tk_m_warmsTo 93 rfl) rfl F_m_33 (by decide) (Nat.lt_of_lt_of_le (by decide) hm.1) (hm.2.1 0 (by decide)) rfl (hm.2.2 17 (by decide)) ?_
      refine x_bipush 174 7 (ab_dd tk_m_warmsTo 94 rfl) rfl (by decide) ?_
      refine x_iload 176 5 (ab_dd tk_m_warmsTo 95 rfl) rfl rfl ?_
      refine t_iast 177 7 (ab_dd tk_m_warmsTo 96 rfl) rfl (by decide) (Nat.lt_of_lt_of_le (by decide) hm.1) (hm.2.1 6 (by decide)) (by decide) (by decide) (by decide) ?_
      refine x_aload_n 178 0 (ab_dd tk_m_warmsTo 97 rfl) rfl rfl rfl ?_
      refine t_getP 181 126 (ab_dd tk_m_warmsTo 98 rfl) rfl F_m_33 (by decide) (Nat.lt_of_lt_of_le (by decide) hm.1) (hm.2.1 0 (by decide)) rfl (hm.2.2 17 (by decide)) ?_
      refine x_bipush 183 8 (ab_dd tk_m_warmsTo 99 rfl) rfl (by decide) ?_
      refine x_iload 185 6 (ab_dd tk_m_warmsTo 100 rfl) rfl rfl ?_
      refine t_iast 186 8 (ab_dd tk_m_warmsTo 101 rfl) rfl (by decide) (Nat.lt_of_lt_of_le (by decide) hm.1) (hm.2.1 6 (by decide)) (by decide) (by decide) (by decide) ?_
      refine x_aload_n 187 0 (ab_dd tk_m_warmsTo 102 rfl) rfl rfl rfl ?_
      refine x_iconst 188 0 (ab_dd tk_m_warmsTo 103 rfl) rfl (by decide) ?_
      refine x_iload_n 189 1 (ab_dd tk_m_warmsTo 104 rfl) rfl rfl rfl ?_
      refine x_iload_n 190 2 (ab_dd tk_m_warmsTo 105 rfl) rfl rfl rfl ?_
      refine x_iload_n 191 1 (ab_dd tk_m_warmsTo 106 rfl) rfl rfl rfl ?_
      refine x_iload_n 192 2 (ab_dd tk_m_warmsTo 107 rfl) rfl rfl rfl ?_
      refine x_callS 195 M_m_seatIn 0 2 [_, _] (ab_dd tk_m_warmsTo 108 rfl) rfl (by decide) K_m_seatIn T_m_seatIn L_m_231 rfl (Nat.le_of_ble_eq_true rfl) (w_seatIn _ c r hc hr) (fun v1 w1 h1 => ?_)
      obtain ⟨rfl, rfl⟩ := h1
      refine x_iload_n 196 3 (ab_dd tk_m_warmsTo 109 rfl) rfl rfl rfl ?_
      have hm3 : mSh (pI (pI (pI S 126 6 (nI bh.1)) 126 7 (nI bh.2.1)) 126 8 (nI bh.2.2)) := hm
      have hW3 := hl.2.2.1 h156
      refine t_callV 199 M_m_reckons 2 5 [_, _, _, _, _] (ab_dd tk_m_warmsTo 110 rfl) rfl (by decide) K_m_reckons V_m_reckons.1 V_m_reckons.2 L_m_241 rfl (Nat.le_of_ble_eq_true rfl) (by decide) (Nat.lt_of_lt_of_le (by decide) hm3.1) (hm3.2.1 0 (by decide)) rfl (c_m_reckons hm3 0 c r _ mo (by decide) hc hr hl.1 (fun j hj => by rw [lwE_ht]; exact (hW3.1 j hj).1)) (fun v1 w1 h1 => ?_)
      obtain ⟨S4, rfl, hE4, rfl⟩ := h1
      refine x_topi (fun v1 ev1 => ?_)
      refine x_istore 201 [some (.ref 120), some (.int (nI c)), some (.int (nI r)), some (.int mo), some (.int (nI bh.1)), some (.int (nI bh.2.1)), some (.int (nI bh.2.2)), some (.int (nI (mWa c r))), some (.int v1)] 8 (ab_dd tk_m_warmsTo 111 rfl) rfl (by decide) rfl ?_
      refine fin S4 _ _ _ _ _ ((((sEq.rf.pI (by decide)).pI (by decide)).pI (by decide)).tr hE4) ?_
      rw [ev1]
      refine (congrArg cl4 (lvV_ok hW3 _)).trans ?_
      unfold spT mWl
      rw [if_pos h156, hbh]
      dsimp only
      refine congrArg cl4 (lvV_cg (u := 9) (by decide) (fun i hi => ?_) hW3)
      match i, hi with
      | 0, _ => rfl
      | 1, _ => exact (mSea_eq hr).symm
      | 2, _ => exact (mCls_eq hr).symm
      | 3, _ => rfl
      | 4, _ => rfl
      | 5, _ => rfl
      | 6, _ => rfl
      | 7, _ => rfl
      | 8, _ => rfl
  have loop : ∀ (m k : Nat), k + m = mR S → ab_Ex G 3 M_m_warmsTo 12 [some (.ref 120), some (.int (nI c)), some (.int (nI r)), some (.int mo), some (.int (nI (spB (mSea S) c r k).1)), some (.int (nI (spB (mSea S) c r k).2.1)), some (.int (nI (spB (mSea S) c r k).2.2)), some (.int (nI k)), none] [] (sw S) (fun v w' => ∃ S', w' = sw S' ∧ sEq [125, 126] S S' ∧ v = some (.int (nI (spT (mWl S) (mSea S) (mCls S) (mR S) mo c r)))) := by
    intro m
    induction m with
    | zero =>
      intro k hk
      have hkR : k = mR S := by omega
      subst hkR
      rw [hbh]
      refine x_iload 14 7 (ab_dd tk_m_warmsTo 8 rfl) rfl rfl ?_
      refine x_aload_n 15 0 (ab_dd tk_m_warmsTo 9 rfl) rfl rfl rfl ?_
      refine t_getP 18 121 (ab_dd tk_m_warmsTo 10 rfl) rfl F_m_13 (by decide) (Nat.lt_of_lt_of_le (by decide) hm.1) (hm.2.1 0 (by decide)) rfl (hm.2.2 1 (by decide)) ?_
      refine x_iconst 19 1 (ab_dd tk_m_warmsTo 11 rfl) rfl (by decide) ?_
      refine t_iald 20 1 (ab_dd tk_m_warmsTo 12 rfl) rfl (by decide) (Nat.lt_of_lt_of_le (by decide) hm.1) (hm.2.1 1 (by decide)) (by decide) (by decide) (by decide) ?_
      refine x_icmp_ge_t 104 (ab_dd tk_m_warmsTo 13 rfl) (by decide) (mR_t hv (by omega) (by omega)) ?_
      refine x_iload_n 105 1 (ab_dd tk_m_warmsTo 57 rfl) rfl rfl rfl ?_
      refine x_iload_n 106 2 (ab_dd tk_m_warmsTo 58 rfl) rfl rfl rfl ?_
      refine x_callS 109 M_m_warmthIn 1 2 [_, _] (ab_dd tk_m_warmsTo 59 rfl) rfl (by decide) K_m_warmthIn T_m_warmthIn L_m_228 rfl (Nat.le_of_ble_eq_true rfl) (w_warmthIn _ c r hc hr) (fun v1 w1 h1 => ?_)
      obtain ⟨rfl, rfl⟩ := h1
      refine x_topi (fun v1 ev1 => ?_)
      refine x_istore 111 [some (.ref 120), some (.int (nI c)), some (.int (nI r)), some (.int mo), some (.int (nI bh.1)), some (.int (nI bh.2.1)), some (.int (nI bh.2.2)), some (.int v1), none] 7 (ab_dd tk_m_warmsTo 60 rfl) rfl (by decide) rfl ?_
      subst ev1
      refine x_iload 113 5 (ab_dd tk_m_warmsTo 61 rfl) rfl rfl ?_
      refine x_iload 115 7 (ab_dd tk_m_warmsTo 62 rfl) rfl rfl ?_
      refine x_iload 117 4 (ab_dd tk_m_warmsTo 63 rfl) rfl rfl ?_
      refine x_imul 118 (ab_dd tk_m_warmsTo 64 rfl) rfl ?_
      refine x_icmp_le 121 128 (ab_dd tk_m_warmsTo 65 rfl) rfl (by decide) (fun h118 => ?_) (fun h118 => ?_)
      · refine x_iload 130 5 (ab_dd tk_m_warmsTo 70 rfl) rfl rfl ?_
        refine x_iload 132 7 (ab_dd tk_m_warmsTo 71 rfl) rfl rfl ?_
        refine x_iload 134 4 (ab_dd tk_m_warmsTo 72 rfl) rfl rfl ?_
        refine x_imul 135 (ab_dd tk_m_warmsTo 73 rfl) rfl ?_
        refine x_icmp_ge 138 145 (ab_dd tk_m_warmsTo 74 rfl) rfl (by decide) (fun h135 => ?_) (fun h135 => ?_)
        · refine x_iload 147 7 (ab_dd tk_m_warmsTo 79 rfl) rfl rfl ?_
          refine x_topi (fun v2 ev2 => ?_)
          refine x_istore 149 [some (.ref 120), some (.int (nI c)), some (.int (nI r)), some (.int mo), some (.int (nI bh.1)), some (.int (nI bh.2.1)), some (.int (nI bh.2.2)), some (.int (nI (mWa c r))), some (.int v2)] 8 (ab_dd tk_m_warmsTo 80 rfl) rfl (by decide) rfl ?_
          have hmu : mWa c r * bh.1 ≤ 16 := Nat.mul_le_mul (show mWa c r ≤ 4 by omega) (show bh.1 ≤ 4 by omega)
          rw [pk_mul, nI_leI (by omega) (by omega)] at h118
          rw [pk_mul, nI_leI (by omega) (by omega)] at h135
          exact tail _ (by rw [ev2, if_neg (by omega), if_neg (by omega)])
        · refine x_iload 140 7 (ab_dd tk_m_warmsTo 75 rfl) rfl rfl ?_
          refine x_iconst 141 1 (ab_dd tk_m_warmsTo 76 rfl) rfl (by decide) ?_
          refine x_isub 142 (ab_dd tk_m_warmsTo 77 rfl) rfl ?_
          refine x_goto 147 (ab_dd tk_m_warmsTo 78 rfl) (by decide) ?_
          refine x_topi (fun v3 ev3 => ?_)
          refine x_istore 149 [some (.ref 120), some (.int (nI c)), some (.int (nI r)), some (.int mo), some (.int (nI bh.1)), some (.int (nI bh.2.1)), some (.int (nI bh.2.2)), some (.int (nI (mWa c r))), some (.int v3)] 8 (ab_dd tk_m_warmsTo 80 rfl) rfl (by decide) rfl ?_
          have hmu : mWa c r * bh.1 ≤ 16 := Nat.mul_le_mul (show mWa c r ≤ 4 by omega) (show bh.1 ≤ 4 by omega)
          rw [pk_mul, nI_leI (by omega) (by omega)] at h118
          rw [pk_mul, nI_leI (by omega) (by omega)] at h135
          exact tail _ (by rw [ev3, if_neg (by omega), if_pos (by omega)])
      · refine x_iload 123 7 (ab_dd tk_m_warmsTo 66 rfl) rfl rfl ?_
        refine x_iconst 124 1 (ab_dd tk_m_warmsTo 67 rfl) rfl (by decide) ?_
        refine x_iadd 125 (ab_dd tk_m_warmsTo 68 rfl) rfl ?_
        refine x_goto 147 (ab_dd tk_m_warmsTo 69 rfl) (by decide) ?_
        refine x_topi (fun v4 ev4 => ?_)
        refine x_istore 149 [some (.ref 120), some (.int (nI c)), some (.int (nI r)), some (.int mo), some (.int (nI bh.1)), some (.int (nI bh.2.1)), some (.int (nI bh.2.2)), some (.int (nI (mWa c r))), some (.int v4)] 8 (ab_dd tk_m_warmsTo 80 rfl) rfl (by decide) rfl ?_
        have hmu : mWa c r * bh.1 ≤ 16 := Nat.mul_le_mul (show mWa c r ≤ 4 by omega) (show bh.1 ≤ 4 by omega)
        rw [pk_mul, nI_leI (by omega) (by omega)] at h118
        exact tail _ (by rw [ev4, if_pos (by omega)])
    | succ m ih =>
      intro k hk
      have hsk := mSe_lt c k
      have hsr := mSe_lt c r
      refine x_iload 14 7 (ab_dd tk_m_warmsTo 8 rfl) rfl rfl ?_
      refine x_aload_n 15 0 (ab_dd tk_m_warmsTo 9 rfl) rfl rfl rfl ?_
      refine t_getP 18 121 (ab_dd tk_m_warmsTo 10 rfl) rfl F_m_13 (by decide) (Nat.lt_of_lt_of_le (by decide) hm.1) (hm.2.1 0 (by decide)) rfl (hm.2.2 1 (by decide)) ?_
      refine x_iconst 19 1 (ab_dd tk_m_warmsTo 11 rfl) rfl (by decide) ?_
      refine t_iald 20 1 (ab_dd tk_m_warmsTo 12 rfl) rfl (by decide) (Nat.lt_of_lt_of_le (by decide) hm.1) (hm.2.1 1 (by decide)) (by decide) (by decide) (by decide) ?_
      refine x_icmp_ge_f 23 (ab_dd tk_m_warmsTo 13 rfl) rfl 104 (by decide) (mR_f hv (by omega)) ?_
      refine x_iload_n 24 1 (ab_dd tk_m_warmsTo 14 rfl) rfl rfl rfl ?_
      refine x_iload 26 7 (ab_dd tk_m_warmsTo 15 rfl) rfl rfl ?_
      refine x_callS 29 M_m_seatIn 0 2 [_, _] (ab_dd tk_m_warmsTo 16 rfl) rfl (by decide) K_m_seatIn T_m_seatIn L_m_231 rfl (Nat.le_of_ble_eq_true rfl) (w_seatIn _ c k hc (by omega)) (fun v1 w1 h1 => ?_)
      obtain ⟨rfl, rfl⟩ := h1
      refine x_iload_n 30 1 (ab_dd tk_m_warmsTo 17 rfl) rfl rfl rfl ?_
      refine x_iload_n 31 2 (ab_dd tk_m_warmsTo 18 rfl) rfl rfl rfl ?_
      refine x_callS 34 M_m_seatIn 0 2 [_, _] (ab_dd tk_m_warmsTo 19 rfl) rfl (by decide) K_m_seatIn T_m_seatIn L_m_231 rfl (Nat.le_of_ble_eq_true rfl) (w_seatIn _ c r hc (by omega)) (fun v1 w1 h1 => ?_)
      obtain ⟨rfl, rfl⟩ := h1
      refine x_isub 35 (ab_dd tk_m_warmsTo 20 rfl) rfl ?_
      refine x_topi (fun v1 ev1 => ?_)
      refine x_istore 37 [some (.ref 120), some (.int (nI c)), some (.int (nI r)), some (.int mo), some (.int (nI (spB (mSea S) c r k).1)), some (.int (nI (spB (mSea S) c r k).2.1)), some (.int (nI (spB (mSea S) c r k).2.2)), some (.int (nI k)), some (.int v1)] 8 (ab_dd tk_m_warmsTo 21 rfl) rfl (by decide) rfl ?_
      refine x_iload 39 8 (ab_dd tk_m_warmsTo 22 rfl) rfl rfl ?_
      refine x_iconst 40 1 (ab_dd tk_m_warmsTo 23 rfl) rfl (by decide) ?_
      refine x_icmp_eq 43 52 (ab_dd tk_m_warmsTo 24 rfl) rfl (by decide) (fun h40 => ?_) (fun h40 => ?_)
      · refine x_iincN 55 4 1 (fun y => [some (.ref 120), some (.int (nI c)), some (.int (nI r)), some (.int mo), some (.int y), some (.int (nI (spB (mSea S) c r k).2.1)), some (.int (nI (spB (mSea S) c r k).2.2)), some (.int (nI k)), some (.int v1)]) (ab_dd tk_m_warmsTo 29 rfl) rfl (by decide) rfl (by decide) (fun _ => rfl) (fun v2 ev2 => ?_)
        refine x_iload 57 5 (ab_dd tk_m_warmsTo 30 rfl) rfl rfl ?_
        refine x_iload_n 58 1 (ab_dd tk_m_warmsTo 31 rfl) rfl rfl rfl ?_
        refine x_iload 60 7 (ab_dd tk_m_warmsTo 32 rfl) rfl rfl ?_
        refine x_callS 63 M_m_warmthIn 1 2 [_, _] (ab_dd tk_m_warmsTo 33 rfl) rfl (by decide) K_m_warmthIn T_m_warmthIn L_m_228 rfl (Nat.le_of_ble_eq_true rfl) (w_warmthIn _ c k hc (by omega)) (fun v1 w1 h1 => ?_)
        obtain ⟨rfl, rfl⟩ := h1
        refine x_iadd 64 (ab_dd tk_m_warmsTo 34 rfl) rfl ?_
        refine x_topi (fun v3 ev3 => ?_)
        refine x_istore 66 [some (.ref 120), some (.int (nI c)), some (.int (nI r)), some (.int mo), some (.int v2), some (.int v3), some (.int (nI (spB (mSea S) c r k).2.2)), some (.int (nI k)), some (.int v1)] 5 (ab_dd tk_m_warmsTo 35 rfl) rfl (by decide) rfl ?_
        refine x_iload 68 6 (ab_dd tk_m_warmsTo 36 rfl) rfl rfl ?_
        refine x_aload_n 69 0 (ab_dd tk_m_warmsTo 37 rfl) rfl rfl rfl ?_
        refine t_getP 72 121 (ab_dd tk_m_warmsTo 38 rfl) rfl F_m_13 (by decide) (Nat.lt_of_lt_of_le (by decide) hm.1) (hm.2.1 0 (by decide)) rfl (hm.2.2 1 (by decide)) ?_
        refine x_bipush 74 28 (ab_dd tk_m_warmsTo 39 rfl) rfl (by decide) ?_
        refine x_iload 76 7 (ab_dd tk_m_warmsTo 40 rfl) rfl rfl ?_
        refine x_iadd 77 (ab_dd tk_m_warmsTo 41 rfl) rfl ?_
        refine t_iald 78 (28 + k) (ab_dd tk_m_warmsTo 42 rfl) rfl (by decide) (Nat.lt_of_lt_of_le (by decide) hm.1) (hm.2.1 1 (by decide)) (by rw [show (28 : Int32) = nI 28 from rfl, nI_add]) (by omega) (by decide) ?_
        refine x_aload_n 79 0 (ab_dd tk_m_warmsTo 43 rfl) rfl rfl rfl ?_
        refine t_getP 82 121 (ab_dd tk_m_warmsTo 44 rfl) rfl F_m_13 (by decide) (Nat.lt_of_lt_of_le (by decide) hm.1) (hm.2.1 0 (by decide)) rfl (hm.2.2 1 (by decide)) ?_
        refine x_bipush 84 28 (ab_dd tk_m_warmsTo 45 rfl) rfl (by decide) ?_
        refine x_iload_n 85 2 (ab_dd tk_m_warmsTo 46 rfl) rfl rfl rfl ?_
        refine x_iadd 86 (ab_dd tk_m_warmsTo 47 rfl) rfl ?_
        refine t_iald 87 (28 + r) (ab_dd tk_m_warmsTo 48 rfl) rfl (by decide) (Nat.lt_of_lt_of_le (by decide) hm.1) (hm.2.1 1 (by decide)) (by rw [show (28 : Int32) = nI 28 from rfl, nI_add]) (by omega) (by decide) ?_
        refine x_icmp_ne 90 94 (ab_dd tk_m_warmsTo 49 rfl) rfl (by decide) (fun h87 => ?_) (fun h87 => ?_)
        · refine x_iconst 95 0 (ab_dd tk_m_warmsTo 52 rfl) rfl (by decide) ?_
          refine x_iadd 96 (ab_dd tk_m_warmsTo 53 rfl) rfl ?_
          refine x_topi (fun v4 ev4 => ?_)
          refine x_istore 98 [some (.ref 120), some (.int (nI c)), some (.int (nI r)), some (.int mo), some (.int v2), some (.int v3), some (.int v4), some (.int (nI k)), some (.int v1)] 6 (ab_dd tk_m_warmsTo 54 rfl) rfl (by decide) rfl ?_
          refine x_iincN 101 7 1 (fun y => [some (.ref 120), some (.int (nI c)), some (.int (nI r)), some (.int mo), some (.int v2), some (.int v3), some (.int v4), some (.int y), some (.int v1)]) (ab_dd tk_m_warmsTo 55 rfl) rfl (by decide) rfl (by decide) (fun _ => rfl) (fun v5 ev5 => ?_)
          refine x_goto 12 (ab_dd tk_m_warmsTo 56 rfl) (by decide) ?_
          have hw : v5 = nI (k + 1) := by rw [ev5, nI_1]
          subst hw
          refine x_forget 8 ?_
          have hB : spB (mSea S) c r (k + 1) = ((spB (mSea S) c r k).1 + 1, (spB (mSea S) c r k).2.1 + mWa c k, (spB (mSea S) c r k).2.2 + (if mSea S k = mSea S r then 1 else 0)) := if_pos (Or.inl ((d1 _ hsk _ hsr).mp (ev1 ▸ h40)))
          have := ih (k + 1) (by omega)
          rw [hB, show (if mSea S k = mSea S r then 1 else 0) = 0 from if_neg (by rw [mSea_eq (by omega), mSea_eq hr]; exact h87)] at this
          have hb : v2 = nI ((spB (mSea S) c r k).1 + 1) := by rw [ev2, nI_1]
          have hh : v3 = nI ((spB (mSea S) c r k).2.1 + mWa c k) := by rw [ev3, nI_add]
          have hs : v4 = nI ((spB (mSea S) c r k).2.2 + 0) := by
            rw [ev4]
            exact Int32.add_zero _
          subst hb; subst hh; subst hs
          exact this
        · refine x_iconst 91 1 (ab_dd tk_m_warmsTo 50 rfl) rfl (by decide) ?_
          refine x_goto 95 (ab_dd tk_m_warmsTo 51 rfl) (by decide) ?_
          refine x_iadd 96 (ab_dd tk_m_warmsTo 53 rfl) rfl ?_
          refine x_topi (fun v6 ev6 => ?_)
          refine x_istore 98 [some (.ref 120), some (.int (nI c)), some (.int (nI r)), some (.int mo), some (.int v2), some (.int v3), some (.int v6), some (.int (nI k)), some (.int v1)] 6 (ab_dd tk_m_warmsTo 54 rfl) rfl (by decide) rfl ?_
          refine x_iincN 101 7 1 (fun y => [some (.ref 120), some (.int (nI c)), some (.int (nI r)), some (.int mo), some (.int v2), some (.int v3), some (.int v6), some (.int y), some (.int v1)]) (ab_dd tk_m_warmsTo 55 rfl) rfl (by decide) rfl (by decide) (fun _ => rfl) (fun v7 ev7 => ?_)
          refine x_goto 12 (ab_dd tk_m_warmsTo 56 rfl) (by decide) ?_
          have hw : v7 = nI (k + 1) := by rw [ev7, nI_1]
          subst hw
          refine x_forget 8 ?_
          have hB : spB (mSea S) c r (k + 1) = ((spB (mSea S) c r k).1 + 1, (spB (mSea S) c r k).2.1 + mWa c k, (spB (mSea S) c r k).2.2 + (if mSea S k = mSea S r then 1 else 0)) := if_pos (Or.inl ((d1 _ hsk _ hsr).mp (ev1 ▸ h40)))
          have := ih (k + 1) (by omega)
          rw [hB, show (if mSea S k = mSea S r then 1 else 0) = 1 from if_pos (by rw [mSea_eq (by omega), mSea_eq hr]; exact h87)] at this
          have hb : v2 = nI ((spB (mSea S) c r k).1 + 1) := by rw [ev2, nI_1]
          have hh : v3 = nI ((spB (mSea S) c r k).2.1 + mWa c k) := by rw [ev3, nI_add]
          have hs : v6 = nI ((spB (mSea S) c r k).2.2 + 1) := by
            rw [ev6]
            exact nI_1 _
          subst hb; subst hh; subst hs
          exact this
      · refine x_iload 45 8 (ab_dd tk_m_warmsTo 25 rfl) rfl rfl ?_
        refine x_iconst 46 (-1) (ab_dd tk_m_warmsTo 26 rfl) rfl (by decide) ?_
        refine x_icmp_eq 49 52 (ab_dd tk_m_warmsTo 27 rfl) rfl (by decide) (fun h46 => ?_) (fun h46 => ?_)
        · refine x_iincN 55 4 1 (fun y => [some (.ref 120), some (.int (nI c)), some (.int (nI r)), some (.int mo), some (.int y), some (.int (nI (spB (mSea S) c r k).2.1)), some (.int (nI (spB (mSea S) c r k).2.2)), some (.int (nI k)), some (.int v1)]) (ab_dd tk_m_warmsTo 29 rfl) rfl (by decide) rfl (by decide) (fun _ => rfl) (fun v8 ev8 => ?_)
          refine x_iload 57 5 (ab_dd tk_m_warmsTo 30 rfl) rfl rfl ?_
          refine x_iload_n 58 1 (ab_dd tk_m_warmsTo 31 rfl) rfl rfl rfl ?_
          refine x_iload 60 7 (ab_dd tk_m_warmsTo 32 rfl) rfl rfl ?_
          refine x_callS 63 M_m_warmthIn 1 2 [_, _] (ab_dd tk_m_warmsTo 33 rfl) rfl (by decide) K_m_warmthIn T_m_warmthIn L_m_228 rfl (Nat.le_of_ble_eq_true rfl) (w_warmthIn _ c k hc (by omega)) (fun v1 w1 h1 => ?_)
          obtain ⟨rfl, rfl⟩ := h1
          refine x_iadd 64 (ab_dd tk_m_warmsTo 34 rfl) rfl ?_
          refine x_topi (fun v9 ev9 => ?_)
          refine x_istore 66 [some (.ref 120), some (.int (nI c)), some (.int (nI r)), some (.int mo), some (.int v8), some (.int v9), some (.int (nI (spB (mSea S) c r k).2.2)), some (.int (nI k)), some (.int v1)] 5 (ab_dd tk_m_warmsTo 35 rfl) rfl (by decide) rfl ?_
          refine x_iload 68 6 (ab_dd tk_m_warmsTo 36 rfl) rfl rfl ?_
          refine x_aload_n 69 0 (ab_dd tk_m_warmsTo 37 rfl) rfl rfl rfl ?_
          refine t_getP 72 121 (ab_dd tk_m_warmsTo 38 rfl) rfl F_m_13 (by decide) (Nat.lt_of_lt_of_le (by decide) hm.1) (hm.2.1 0 (by decide)) rfl (hm.2.2 1 (by decide)) ?_
          refine x_bipush 74 28 (ab_dd tk_m_warmsTo 39 rfl) rfl (by decide) ?_
          refine x_iload 76 7 (ab_dd tk_m_warmsTo 40 rfl) rfl rfl ?_
          refine x_iadd 77 (ab_dd tk_m_warmsTo 41 rfl) rfl ?_
          refine t_iald 78 (28 + k) (ab_dd tk_m_warmsTo 42 rfl) rfl (by decide) (Nat.lt_of_lt_of_le (by decide) hm.1) (hm.2.1 1 (by decide)) (by rw [show (28 : Int32) = nI 28 from rfl, nI_add]) (by omega) (by decide) ?_
          refine x_aload_n 79 0 (ab_dd tk_m_warmsTo 43 rfl) rfl rfl rfl ?_
          refine t_getP 82 121 (ab_dd tk_m_warmsTo 44 rfl) rfl F_m_13 (by decide) (Nat.lt_of_lt_of_le (by decide) hm.1) (hm.2.1 0 (by decide)) rfl (hm.2.2 1 (by decide)) ?_
          refine x_bipush 84 28 (ab_dd tk_m_warmsTo 45 rfl) rfl (by decide) ?_
          refine x_iload_n 85 2 (ab_dd tk_m_warmsTo 46 rfl) rfl rfl rfl ?_
          refine x_iadd 86 (ab_dd tk_m_warmsTo 47 rfl) rfl ?_
          refine t_iald 87 (28 + r) (ab_dd tk_m_warmsTo 48 rfl) rfl (by decide) (Nat.lt_of_lt_of_le (by decide) hm.1) (hm.2.1 1 (by decide)) (by rw [show (28 : Int32) = nI 28 from rfl, nI_add]) (by omega) (by decide) ?_
          refine x_icmp_ne 90 94 (ab_dd tk_m_warmsTo 49 rfl) rfl (by decide) (fun h87 => ?_) (fun h87 => ?_)
          · refine x_iconst 95 0 (ab_dd tk_m_warmsTo 52 rfl) rfl (by decide) ?_
            refine x_iadd 96 (ab_dd tk_m_warmsTo 53 rfl) rfl ?_
            refine x_topi (fun v10 ev10 => ?_)
            refine x_istore 98 [some (.ref 120), some (.int (nI c)), some (.int (nI r)), some (.int mo), some (.int v8), some (.int v9), some (.int v10), some (.int (nI k)), some (.int v1)] 6 (ab_dd tk_m_warmsTo 54 rfl) rfl (by decide) rfl ?_
            refine x_iincN 101 7 1 (fun y => [some (.ref 120), some (.int (nI c)), some (.int (nI r)), some (.int mo), some (.int v8), some (.int v9), some (.int v10), some (.int y), some (.int v1)]) (ab_dd tk_m_warmsTo 55 rfl) rfl (by decide) rfl (by decide) (fun _ => rfl) (fun v11 ev11 => ?_)
            refine x_goto 12 (ab_dd tk_m_warmsTo 56 rfl) (by decide) ?_
            have hw : v11 = nI (k + 1) := by rw [ev11, nI_1]
            subst hw
            refine x_forget 8 ?_
            have hB : spB (mSea S) c r (k + 1) = ((spB (mSea S) c r k).1 + 1, (spB (mSea S) c r k).2.1 + mWa c k, (spB (mSea S) c r k).2.2 + (if mSea S k = mSea S r then 1 else 0)) := if_pos (Or.inr ((d2 _ hsk _ hsr).mp (ev1 ▸ h46)))
            have := ih (k + 1) (by omega)
            rw [hB, show (if mSea S k = mSea S r then 1 else 0) = 0 from if_neg (by rw [mSea_eq (by omega), mSea_eq hr]; exact h87)] at this
            have hb : v8 = nI ((spB (mSea S) c r k).1 + 1) := by rw [ev8, nI_1]
            have hh : v9 = nI ((spB (mSea S) c r k).2.1 + mWa c k) := by rw [ev9, nI_add]
            have hs : v10 = nI ((spB (mSea S) c r k).2.2 + 0) := by
              rw [ev10]
              exact Int32.add_zero _
            subst hb; subst hh; subst hs
            exact this
          · refine x_iconst 91 1 (ab_dd tk_m_warmsTo 50 rfl) rfl (by decide) ?_
            refine x_goto 95 (ab_dd tk_m_warmsTo 51 rfl) (by decide) ?_
            refine x_iadd 96 (ab_dd tk_m_warmsTo 53 rfl) rfl ?_
            refine x_topi (fun v12 ev12 => ?_)
            refine x_istore 98 [some (.ref 120), some (.int (nI c)), some (.int (nI r)), some (.int mo), some (.int v8), some (.int v9), some (.int v12), some (.int (nI k)), some (.int v1)] 6 (ab_dd tk_m_warmsTo 54 rfl) rfl (by decide) rfl ?_
            refine x_iincN 101 7 1 (fun y => [some (.ref 120), some (.int (nI c)), some (.int (nI r)), some (.int mo), some (.int v8), some (.int v9), some (.int v12), some (.int y), some (.int v1)]) (ab_dd tk_m_warmsTo 55 rfl) rfl (by decide) rfl (by decide) (fun _ => rfl) (fun v13 ev13 => ?_)
            refine x_goto 12 (ab_dd tk_m_warmsTo 56 rfl) (by decide) ?_
            have hw : v13 = nI (k + 1) := by rw [ev13, nI_1]
            subst hw
            refine x_forget 8 ?_
            have hB : spB (mSea S) c r (k + 1) = ((spB (mSea S) c r k).1 + 1, (spB (mSea S) c r k).2.1 + mWa c k, (spB (mSea S) c r k).2.2 + (if mSea S k = mSea S r then 1 else 0)) := if_pos (Or.inr ((d2 _ hsk _ hsr).mp (ev1 ▸ h46)))
            have := ih (k + 1) (by omega)
            rw [hB, show (if mSea S k = mSea S r then 1 else 0) = 1 from if_pos (by rw [mSea_eq (by omega), mSea_eq hr]; exact h87)] at this
            have hb : v8 = nI ((spB (mSea S) c r k).1 + 1) := by rw [ev8, nI_1]
            have hh : v9 = nI ((spB (mSea S) c r k).2.1 + mWa c k) := by rw [ev9, nI_add]
            have hs : v12 = nI ((spB (mSea S) c r k).2.2 + 1) := by
              rw [ev12]
              exact nI_1 _
            subst hb; subst hh; subst hs
            exact this
        · refine x_goto 98 (ab_dd tk_m_warmsTo 28 rfl) (by decide) ?_
          refine x_iincN 101 7 1 (fun y => [some (.ref 120), some (.int (nI c)), some (.int (nI r)), some (.int mo), some (.int (nI (spB (mSea S) c r k).1)), some (.int (nI (spB (mSea S) c r k).2.1)), some (.int (nI (spB (mSea S) c r k).2.2)), some (.int y), some (.int v1)]) (ab_dd tk_m_warmsTo 55 rfl) rfl (by decide) rfl (by decide) (fun _ => rfl) (fun v14 ev14 => ?_)
          refine x_goto 12 (ab_dd tk_m_warmsTo 56 rfl) (by decide) ?_
          have hw : v14 = nI (k + 1) := by rw [ev14, nI_1]
          subst hw
          refine x_forget 8 ?_
          have hB : spB (mSea S) c r (k + 1) = spB (mSea S) c r k := if_neg (fun z => z.elim (fun y => h40 (ev1 ▸ (d1 _ hsk _ hsr).mpr y)) (fun y => h46 (ev1 ▸ (d2 _ hsk _ hsr).mpr y)))
          have := ih (k + 1) (by omega)
          rw [hB] at this
          exact this
  refine x_iconst 1 0 (ab_dd tk_m_warmsTo 0 rfl) rfl (by decide) ?_
  refine x_topi (fun v1 ev1 => ?_)
  refine x_istore 3 [some (.ref 120), some (.int (nI c)), some (.int (nI r)), some (.int mo), some (.int v1), none, none, none, none] 4 (ab_dd tk_m_warmsTo 1 rfl) rfl (by decide) rfl ?_
  refine x_iconst 4 0 (ab_dd tk_m_warmsTo 2 rfl) rfl (by decide) ?_
  refine x_topi (fun v2 ev2 => ?_)
  refine x_istore 6 [some (.ref 120), some (.int (nI c)), some (.int (nI r)), some (.int mo), some (.int v1), some (.int v2), none, none, none] 5 (ab_dd tk_m_warmsTo 3 rfl) rfl (by decide) rfl ?_
  refine x_iconst 7 0 (ab_dd tk_m_warmsTo 4 rfl) rfl (by decide) ?_
  refine x_topi (fun v3 ev3 => ?_)
  refine x_istore 9 [some (.ref 120), some (.int (nI c)), some (.int (nI r)), some (.int mo), some (.int v1), some (.int v2), some (.int v3), none, none] 6 (ab_dd tk_m_warmsTo 5 rfl) rfl (by decide) rfl ?_
  refine x_iconst 10 0 (ab_dd tk_m_warmsTo 6 rfl) rfl (by decide) ?_
  refine x_topi (fun v4 ev4 => ?_)
  refine x_istore 12 [some (.ref 120), some (.int (nI c)), some (.int (nI r)), some (.int mo), some (.int v1), some (.int v2), some (.int v3), some (.int v4), none] 7 (ab_dd tk_m_warmsTo 7 rfl) rfl (by decide) rfl ?_
  subst ev1; subst ev2; subst ev3; subst ev4
  exact loop (mR S) 0 (by omega)
def spM (ml : Option (Nat × (Nat → Int32))) (sea cls : Nat → Int32) (mo : Int32) (c r : Nat) (seat1 : Int32) : Bool := match ml with
  | none => true
  | some (k, cd) => decide (lvV (spW (nI r) (sea r) (cls r) (nI (mWa c r)) seat1 mo 0 0 0) cd k = 1)
def tb_m_mayGo : List (Nat × Instr × Nat) := [(0, .aload_n 0, 1), (1, .getfield 13, 3), (4, .iconst 3, 1), (5, .iaload, 1), (6, .ifCond .eq 17, 3), (9, .aload_n 0, 1), (10, .iconst 1, 1), (11, .iload_n 1, 1), (12, .iload_n 2, 1), (13, .iload_n 3, 1), (14, .iload 4, 2), (16, .invokevirtual 241, 3), (19, .iconst 1, 1), (20, .if_icmp .ne 7, 3), (23, .iconst 1, 1), (24, .goto 4, 3), (27, .iconst 0, 1), (28, .ireturn, 1)]
theorem tk_m_mayGo : ∀ q ∈ tb_m_mayGo, decode M_m_mayGo.2.1 q.1 = .ok q.2 := by decide +kernel
theorem c_m_mayGo {G : ab_G} {S : ab_S} (hm : mSh S) (hl : mLw S) (c r : Nat) (seat1 mo : Int32) (hc : c < 160000) (hr : r < 4) : ab_C G 3 M_m_mayGo [.ref 120, .int (nI c), .int (nI r), .int seat1, .int mo] (sw S) (fun v w' => ∃ S', w' = sw S' ∧ sEq [125, 126] S S' ∧ v = some (.int (if spM (mMl S) (mSea S) (mCls S) mo c r seat1 = true then 1 else 0))) := by
  refine x_enter [some (.ref 120), some (.int (nI c)), some (.int (nI r)), some (.int seat1), some (.int mo)] (by decide) (Nat.le_of_ble_eq_true rfl) rfl (fun v w' h => by obtain ⟨S', rfl, -, rfl⟩ := h; show narrow _ _ = _; split <;> rfl) ?_
  refine x_aload_n 1 0 (ab_dd tk_m_mayGo 0 rfl) rfl rfl rfl ?_
  refine t_getP 4 121 (ab_dd tk_m_mayGo 1 rfl) rfl F_m_13 (by decide) (Nat.lt_of_lt_of_le (by decide) hm.1) (hm.2.1 0 (by decide)) rfl (hm.2.2 1 (by decide)) ?_
  refine x_iconst 5 3 (ab_dd tk_m_mayGo 2 rfl) rfl (by decide) ?_
  refine t_iald 6 3 (ab_dd tk_m_mayGo 3 rfl) rfl (by decide) (Nat.lt_of_lt_of_le (by decide) hm.1) (hm.2.1 1 (by decide)) (by decide) (by decide) (by decide) ?_
  refine x_if_eq 9 23 (ab_dd tk_m_mayGo 4 rfl) rfl (by decide) (fun h6 => ?_) (fun h6 => ?_)
  · refine x_iconst 24 1 (ab_dd tk_m_mayGo 14 rfl) rfl (by decide) ?_
    refine x_goto 28 (ab_dd tk_m_mayGo 15 rfl) (by decide) ?_
    exact x_iret (ab_dd tk_m_mayGo 17 rfl) ⟨S, rfl, sEq.rf, by unfold spM mMl; rw [if_pos h6]; rfl⟩
  · refine x_aload_n 10 0 (ab_dd tk_m_mayGo 5 rfl) rfl rfl rfl ?_
    refine x_iconst 11 1 (ab_dd tk_m_mayGo 6 rfl) rfl (by decide) ?_
    refine x_iload_n 12 1 (ab_dd tk_m_mayGo 7 rfl) rfl rfl rfl ?_
    refine x_iload_n 13 2 (ab_dd tk_m_mayGo 8 rfl) rfl rfl rfl ?_
    refine x_iload_n 14 3 (ab_dd tk_m_mayGo 9 rfl) rfl rfl rfl ?_
    refine x_iload 16 4 (ab_dd tk_m_mayGo 10 rfl) rfl rfl ?_
    have hW3 : lwW (nI 1006) (mCd S 1) (mCn S 1) := hl.2.2.2.resolve_left h6
    refine t_callV 19 M_m_reckons 2 5 [_, _, _, _, _] (ab_dd tk_m_mayGo 11 rfl) rfl (by decide) K_m_reckons V_m_reckons.1 V_m_reckons.2 L_m_241 rfl (Nat.le_of_ble_eq_true rfl) (by decide) (Nat.lt_of_lt_of_le (by decide) hm.1) (hm.2.1 0 (by decide)) rfl (c_m_reckons hm 1 c r seat1 mo (by decide) hc hr hl.2.1 (fun j hj => by rw [lwE_ht]; exact (hW3.1 j hj).1)) (fun v1 w1 h1 => ?_)
    obtain ⟨S4, rfl, hE4, rfl⟩ := h1
    refine x_iconst 20 1 (ab_dd tk_m_mayGo 12 rfl) rfl (by decide) ?_
    refine x_icmp_ne 23 27 (ab_dd tk_m_mayGo 13 rfl) rfl (by decide) (fun h20 => ?_) (fun h20 => ?_)
    · refine x_iconst 28 0 (ab_dd tk_m_mayGo 16 rfl) rfl (by decide) ?_
      exact x_iret (ab_dd tk_m_mayGo 17 rfl) ⟨S4, rfl, hE4, by
        rw [lvV_ok hW3, lvV_cg (wd' := spW (nI r) (mSea S r) (mCls S r) (nI (mWa c r)) seat1 mo 0 0 0) (u := 6) (by decide) (fun i hi => by
          match i, hi with
          | 0, _ => rfl
          | 1, _ => exact (mSea_eq hr).symm
          | 2, _ => exact (mCls_eq hr).symm
          | 3, _ => rfl
          | 4, _ => rfl
          | 5, _ => rfl) hW3] at h20
        unfold spM mMl
        rw [if_neg h6]
        dsimp only
        rw [if_neg (by simp only [decide_eq_true_eq]; exact h20)]⟩
    · refine x_iconst 24 1 (ab_dd tk_m_mayGo 14 rfl) rfl (by decide) ?_
      refine x_goto 28 (ab_dd tk_m_mayGo 15 rfl) (by decide) ?_
      exact x_iret (ab_dd tk_m_mayGo 17 rfl) ⟨S4, rfl, hE4, by
        rw [lvV_ok hW3, lvV_cg (wd' := spW (nI r) (mSea S r) (mCls S r) (nI (mWa c r)) seat1 mo 0 0 0) (u := 6) (by decide) (fun i hi => by
          match i, hi with
          | 0, _ => rfl
          | 1, _ => exact (mSea_eq hr).symm
          | 2, _ => exact (mCls_eq hr).symm
          | 3, _ => rfl
          | 4, _ => rfl
          | 5, _ => rfl) hW3] at h20
        unfold spM mMl
        rw [if_neg h6]
        dsimp only
        rw [if_pos (by simp only [decide_eq_true_eq]; exact h20)]⟩
