theorem mm_cl4 (v : Int32) : (if (if nI 4 ≤ v then nI 4 else v) ≤ nI 0 then nI 0 else (if nI 4 ≤ v then nI 4 else v)) = nI (cl4 v) := by
  unfold cl4
  have e0 : (nI 0).toInt = 0 := by decide
  have e4 : (nI 4).toInt = 4 := by decide
  have f0 : (0 : Int32).toInt = 0 := by decide
  have f4 : (4 : Int32).toInt = 4 := by decide
  by_cases h4 : nI 4 ≤ v
  · rw [if_pos h4, if_neg (by decide)]
    have g4 := (fa_le' _ _).mp h4
    rw [if_neg (fun z => by have := (fa_lt' _ _).mp z; omega)]
    by_cases h5 : 4 < v
    · rw [if_pos h5]
    · rw [if_neg h5]
      have g5 : ¬ (4 : Int) < v.toInt := fun z => h5 ((fa_lt' _ _).mpr (by omega))
      have : v = nI 4 := Int32.toInt_inj.mp (by rw [e4]; omega)
      rw [this, cN_nI (by decide)]
  · have g4 : ¬ (4 : Int) ≤ v.toInt := fun z => h4 ((fa_le' _ _).mpr (by omega))
    by_cases h0 : v < 0
    · have g0 := (fa_lt' _ _).mp h0
      rw [if_neg h4, if_pos h0, if_pos ((fa_le' _ _).mpr (by omega))]
    · obtain ⟨j, hj, e⟩ := nI_of2 (M := 4) (n := 4) (by decide) h0 ((fa_le' _ _).mpr (by omega))
      have hd : ∀ j, j ≤ 4 → (if (if nI 4 ≤ nI j then nI 4 else nI j) ≤ nI 0 then nI 0 else (if nI 4 ≤ nI j then nI 4 else nI j)) = nI (if nI j < 0 then 0 else if 4 < nI j then 4 else cN (nI j)) := by decide
      rw [e]
      exact hd j hj
theorem wV_lt (a : Nat → Int32) (r o s h m : Nat) : wV a r o s h m < 5 := by
  unfold wV
  split
  · decide
  · exact cl4_lt _
def tb_cl_warmthBehind : List (Nat × Instr × Nat) := [(0, .aload_n 0, 1), (1, .getfield 47, 3), (4, .iload_n 2, 1), (5, .iload_n 1, 1), (6, .invokevirtual 93, 3), (9, .istore_n 3, 1), (10, .iconst 0, 1), (11, .istore 4, 2), (13, .iconst 0, 1), (14, .istore 5, 2), (16, .iconst 0, 1), (17, .istore 6, 2), (19, .iload_n 3, 1), (20, .iconst 1, 1), (21, .isub, 1), (22, .istore 7, 2), (24, .iload 7, 2), (26, .iload_n 3, 1), (27, .iconst 1, 1), (28, .iadd, 1), (29, .if_icmp .gt 83, 3), (32, .iload 7, 2), (34, .ifCond .lt 72, 3), (37, .iload 7, 2), (39, .aload_n 0, 1), (40, .getfield 12, 3), (43, .getfield 60, 3), (46, .if_icmp .ge 60, 3), (49, .aload_n 0, 1), (50, .getfield 47, 3), (53, .iload_n 2, 1), (54, .iload 7, 2), (56, .invokevirtual 69, 3), (59, .istore 8, 2), (61, .iinc 4 1, 3), (64, .iload 5, 2), (66, .aload_n 0, 1), (67, .getfield 38, 3), (70, .iload 8, 2), (72, .iaload, 1), (73, .iadd, 1), (74, .istore 5, 2), (76, .iload 6, 2), (78, .aload_n 0, 1), (79, .getfield 18, 3), (82, .iload 8, 2), (84, .invokestatic 96, 3), (87, .aload_n 0, 1), (88, .getfield 18, 3), (91, .iload_n 1, 1), (92, .invokestatic 96, 3), (95, .if_icmp .ne 7, 3), (98, .iconst 1, 1), (99, .goto 4, 3), (102, .iconst 0, 1), (103, .iadd, 1), (104, .istore 6, 2), (106, .iinc 7 2, 3), (109, .goto (-85), 3), (112, .aload_n 0, 1), (113, .getfield 38, 3), (116, .iload_n 1, 1), (117, .iaload, 1), (118, .istore 7, 2), (120, .aload_n 0, 1), (121, .getfield 12, 3), (124, .getfield 99, 3), (127, .ifnonnull 38, 3), (130, .iload 7, 2), (132, .iload 5, 2), (134, .iload 7, 2), (136, .iload 4, 2), (138, .imul, 1), (139, .if_icmp .le 7, 3), (142, .iconst 1, 1), (143, .goto 4, 3), (146, .iconst 0, 1), (147, .iadd, 1), (148, .iload 5, 2), (150, .iload 7, 2), (152, .iload 4, 2), (154, .imul, 1), (155, .if_icmp .ge 7, 3), (158, .iconst 1, 1), (159, .goto 4, 3), (162, .iconst 0, 1), (163, .isub, 1), (164, .ireturn, 1), (165, .iload_n 1, 1), (166, .iconst 5, 1), (167, .imul, 1), (168, .iload 7, 2), (170, .iadd, 1), (171, .iconst 4, 1), (172, .imul, 1), (173, .iload_n 3, 1), (174, .iadd, 1), (175, .bipush 9, 2), (177, .imul, 1), (178, .iload 5, 2), (180, .iadd, 1), (181, .iconst 3, 1), (182, .imul, 1), (183, .iload 6, 2), (185, .iadd, 1), (186, .istore 8, 2), (188, .iload 8, 2), (190, .ifCond .lt 13, 3), (193, .iload 8, 2), (195, .aload_n 0, 1), (196, .getfield 32, 3), (199, .arraylength, 1), (200, .if_icmp .lt 5, 3), (203, .iconst 0, 1), (204, .ireturn, 1), (205, .aload_n 0, 1), (206, .getfield 32, 3), (209, .iload 8, 2), (211, .iaload, 1), (212, .iconst 3, 1), (213, .ishr, 1), (214, .aload_n 0, 1), (215, .getfield 25, 3), (218, .if_icmp .eq 71, 3), (221, .aload_n 0, 1), (222, .iload_n 1, 1), (223, .iload 7, 2), (225, .iload_n 3, 1), (226, .invokevirtual 82, 3), (229, .aload_n 0, 1), (230, .getfield 41, 3), (233, .bipush 7, 2), (235, .iload 4, 2), (237, .iastore, 1), (238, .aload_n 0, 1), (239, .getfield 41, 3), (242, .bipush 8, 2), (244, .iload 5, 2), (246, .iastore, 1), (247, .aload_n 0, 1), (248, .getfield 41, 3), (251, .bipush 9, 2), (253, .iload 6, 2), (255, .iastore, 1), (256, .aload_n 0, 1), (257, .getfield 32, 3), (260, .iload 8, 2), (262, .aload_n 0, 1), (263, .getfield 25, 3), (266, .iconst 3, 1), (267, .ishl, 1), (268, .iconst 0, 1), (269, .iconst 4, 1), (270, .aload_n 0, 1), (271, .aload_n 0, 1), (272, .getfield 12, 3), (275, .getfield 99, 3), (278, .invokevirtual 86, 3), (281, .invokestatic 102, 3), (284, .invokestatic 107, 3), (287, .ior, 1), (288, .iastore, 1), (289, .aload_n 0, 1), (290, .getfield 32, 3), (293, .iload 8, 2), (295, .iaload, 1), (296, .bipush 7, 2), (298, .iand, 1), (299, .ireturn, 1)]
theorem tk_cl_warmthBehind : ∀ q ∈ tb_cl_warmthBehind, decode M_cl_warmthBehind.2.1 q.1 = .ok q.2 := by decide +kernel
theorem c_cl_warmthBehind {G : ab_G} {S : ab_S} {im : Nat → Prop} {x c bh nb st : Nat} {a : Nat → Int32} (hK : clK S x) (him : imO im) (hcl : clI S im x c a bh nb st) (hx : xSh S) (hse : seOk S) (kc : kSh S.1) (ha : aGood a) (r w q : Nat) (hr : r < aR a) (hw : w < 625) (hq : q < kFc (aR a)) (hah : ∀ i, i < aR a → sI S (x + 7) i = nI (mWa w i)) : ab_C G 2 M_cl_warmthBehind [.ref x, .int (nI r), .int (nI q)] (sw S) (fun v w' => v = some (.int (nI (spT (mWl (rwS a)) (mSea (rwS a)) (mCls (rwS a)) (aR a) (a 40) (cSt (aR a) w q) r))) ∧ ∃ S', w' = sw S' ∧ sEq [x + 5, x + 8, x + 9] S S' ∧ clI S' im x c a bh nb st) := by
  refine x_enter [some (.ref x), some (.int (nI r)), some (.int (nI q)), none, none, none, none, none, none] (by decide) (Nat.le_of_ble_eq_true rfl) rfl (fun v w' h => by obtain ⟨rfl, -⟩ := h; rfl) ?_
  have g := hcl
  obtain ⟨a1, a2, a3, a4, a5, a6, a7, a8, a9, a10, a11, a12, b1, b2, b3⟩ := g
  have hxx := hK.1
  have g1 := a1
  obtain ⟨hk, c1, c2, c3, c4, c5, c6, c7⟩ := g1
  have hci := him c hk.2.2.2.2.2.2.2.1
  have hci1 := him (c + 1) hk.2.2.2.2.2.2.2.2.1
  have hci2 := him (c + 2) hk.2.2.2.2.2.2.2.2.2
  have hnim : ∀ k, k ≤ 9 → ¬ im (x + k) := fun k hk z => by have := him _ z; omega
  have hR := ha.1.R.2
  have hq24 := Nat.lt_of_lt_of_le hq (kFc_le (aR a))
  have hB := qB1_ok hR hq
  have hsr : qSe q r < aR a := (hB.2.2.2.2.1 r hr).2.2
  have hbe := bsd_le (aR a) (qSe q r)
  have hhe := nbH_le (aR a) w q r
  have hsm := nbS_le (mSea (rwS a)) (aR a) q r
  have how := mWa_lt w r
  have hob : mWa w r * bsd (aR a) (qSe q r) ≤ 8 := Nat.le_trans (Nat.mul_le_mul (show mWa w r ≤ 4 by omega) hbe) (by decide)
  have hpos : nbH (aR a) w q r < mWa w r * bsd (aR a) (qSe q r) → 1 ≤ mWa w r := fun z => Nat.pos_of_ne_zero (fun e => by rw [e, Nat.zero_mul] at z; omega)
  have hsl := seaC_lt ha.1
  have after : ∀ y7 y8 : Option Value, ab_Ex G 2 M_cl_warmthBehind 112 [some (.ref x), some (.int (nI r)), some (.int (nI q)), some (.int (nI (qSe q r))), some (.int (nI (bsd (aR a) (qSe q r)))), some (.int (nI (nbH (aR a) w q r))), some (.int (nI (nbS (mSea (rwS a)) (aR a) q r))), y7, y8] [] (sw S) (fun v w' => v = some (.int (nI (spT (mWl (rwS a)) (mSea (rwS a)) (mCls (rwS a)) (aR a) (a 40) (cSt (aR a) w q) r))) ∧ ∃ S', w' = sw S' ∧ sEq [x + 5, x + 8, x + 9] S S' ∧ clI S' im x c a bh nb st) := by
    intro y7 y8
    refine x_forget 7 ?_
    refine x_forget 8 ?_
    rcases hwl : mWl (rwS a) with _ | ⟨n, cd⟩
    · have c5n : sP S c 7 = none := by rw [hwl] at c5; exact c5
      refine x_aload_n 113 0 (ab_dd tk_cl_warmthBehind 59 rfl) rfl rfl rfl ?_
      refine t_getP 116 (x + 7) (ab_dd tk_cl_warmthBehind 60 rfl) rfl F_cl_38 (by rcases hK.1 with z | z <;> omega) (Nat.lt_of_le_of_lt (Nat.le_add_right x 9) hK.2.1) hK.2.2.1 rfl hK.2.2.2.2.2.2.2.2.2.2.2.1 ?_
      refine x_iload_n 117 1 (ab_dd tk_cl_warmthBehind 61 rfl) rfl rfl rfl ?_
      refine t_iald 118 r (ab_dd tk_cl_warmthBehind 62 rfl) rfl (by rcases hK.1 with z | z <;> omega) (Nat.lt_of_le_of_lt (Nat.add_le_add_left (by decide) x) hK.2.1) hK.2.2.2.2.2.1 rfl (by omega) (by decide) (x_topn (mWa w r) (hah r (by omega)) ?_)
      refine x_istore 120 [some (.ref x), some (.int (nI r)), some (.int (nI q)), some (.int (nI (qSe q r))), some (.int (nI (bsd (aR a) (qSe q r)))), some (.int (nI (nbH (aR a) w q r))), some (.int (nI (nbS (mSea (rwS a)) (aR a) q r))), some (.int (nI (mWa w r))), none] 7 (ab_dd tk_cl_warmthBehind 63 rfl) rfl (by decide) rfl ?_
      refine x_aload_n 121 0 (ab_dd tk_cl_warmthBehind 64 rfl) rfl rfl rfl ?_
      refine t_getP 124 c (ab_dd tk_cl_warmthBehind 65 rfl) rfl F_cl_12 (by rcases hK.1 with z | z <;> omega) (Nat.lt_of_le_of_lt (Nat.le_add_right x 9) hK.2.1) hK.2.2.1 rfl a2 ?_
      refine t_getN 127 (ab_dd tk_cl_warmthBehind 66 rfl) rfl F_cl_99 hk.1 (Nat.lt_of_le_of_lt (Nat.le_add_right c 2) hk.2.1) hk.2.2.1 rfl c5n ?_
      refine x_ifnonnull_f 130 (ab_dd tk_cl_warmthBehind 67 rfl) rfl ?_
      refine x_iload 132 7 (ab_dd tk_cl_warmthBehind 68 rfl) rfl rfl ?_
      refine x_iload 134 5 (ab_dd tk_cl_warmthBehind 69 rfl) rfl rfl ?_
      refine x_iload 136 7 (ab_dd tk_cl_warmthBehind 70 rfl) rfl rfl ?_
      refine x_iload 138 4 (ab_dd tk_cl_warmthBehind 71 rfl) rfl rfl ?_
      refine x_imul 139 (ab_dd tk_cl_warmthBehind 72 rfl) rfl (x_topn ((mWa w r) * (bsd (aR a) (qSe q r))) (pk_mul _ _) ?_)
      refine xn_icmp_le 142 146 (ab_dd tk_cl_warmthBehind 73 rfl) rfl (by decide) (by omega) (by omega) (fun h139 => ?_) (fun h139 => ?_)
      · refine x_iconst 147 0 (ab_dd tk_cl_warmthBehind 76 rfl) rfl (by decide) (x_topn 0 rfl ?_)
        refine x_iadd 148 (ab_dd tk_cl_warmthBehind 77 rfl) rfl (x_topn ((mWa w r) + 0) (nI_add _ _) ?_)
        refine x_iload 150 5 (ab_dd tk_cl_warmthBehind 78 rfl) rfl rfl ?_
        refine x_iload 152 7 (ab_dd tk_cl_warmthBehind 79 rfl) rfl rfl ?_
        refine x_iload 154 4 (ab_dd tk_cl_warmthBehind 80 rfl) rfl rfl ?_
        refine x_imul 155 (ab_dd tk_cl_warmthBehind 81 rfl) rfl (x_topn ((mWa w r) * (bsd (aR a) (qSe q r))) (pk_mul _ _) ?_)
        refine xn_icmp_ge 158 162 (ab_dd tk_cl_warmthBehind 82 rfl) rfl (by decide) (by omega) (by omega) (fun h155 => ?_) (fun h155 => ?_)
        · refine x_iconst 163 0 (ab_dd tk_cl_warmthBehind 85 rfl) rfl (by decide) (x_topn 0 rfl ?_)
          refine x_isub 164 (ab_dd tk_cl_warmthBehind 86 rfl) rfl (x_topn (((mWa w r) + 0) - 0) (pk_sub (by omega)) ?_)
          have hsp := spT_no hR hq hw hr hwl
          rw [hwl] at hsp
          exact x_iret (ab_dd tk_cl_warmthBehind 87 rfl) ⟨rI (congrArg nI (by rw [hsp]; split <;> first | omega | (split <;> omega))), S, rfl, sEq.rf, hcl⟩
        · refine x_iconst 159 1 (ab_dd tk_cl_warmthBehind 83 rfl) rfl (by decide) (x_topn 1 rfl ?_)
          refine x_goto 163 (ab_dd tk_cl_warmthBehind 84 rfl) (by decide) ?_
          refine x_isub 164 (ab_dd tk_cl_warmthBehind 86 rfl) rfl (x_topn (((mWa w r) + 0) - 1) (pk_sub (by omega)) ?_)
          have hsp := spT_no hR hq hw hr hwl
          rw [hwl] at hsp
          exact x_iret (ab_dd tk_cl_warmthBehind 87 rfl) ⟨rI (congrArg nI (by rw [hsp]; split <;> first | omega | (split <;> omega))), S, rfl, sEq.rf, hcl⟩
      · refine x_iconst 143 1 (ab_dd tk_cl_warmthBehind 74 rfl) rfl (by decide) (x_topn 1 rfl ?_)
        refine x_goto 147 (ab_dd tk_cl_warmthBehind 75 rfl) (by decide) ?_
        refine x_iadd 148 (ab_dd tk_cl_warmthBehind 77 rfl) rfl (x_topn ((mWa w r) + 1) (nI_add _ _) ?_)
        refine x_iload 150 5 (ab_dd tk_cl_warmthBehind 78 rfl) rfl rfl ?_
        refine x_iload 152 7 (ab_dd tk_cl_warmthBehind 79 rfl) rfl rfl ?_
        refine x_iload 154 4 (ab_dd tk_cl_warmthBehind 80 rfl) rfl rfl ?_
        refine x_imul 155 (ab_dd tk_cl_warmthBehind 81 rfl) rfl (x_topn ((mWa w r) * (bsd (aR a) (qSe q r))) (pk_mul _ _) ?_)
        refine xn_icmp_ge 158 162 (ab_dd tk_cl_warmthBehind 82 rfl) rfl (by decide) (by omega) (by omega) (fun h155 => ?_) (fun h155 => ?_)
        · refine x_iconst 163 0 (ab_dd tk_cl_warmthBehind 85 rfl) rfl (by decide) (x_topn 0 rfl ?_)
          refine x_isub 164 (ab_dd tk_cl_warmthBehind 86 rfl) rfl (x_topn (((mWa w r) + 1) - 0) (pk_sub (by omega)) ?_)
          have hsp := spT_no hR hq hw hr hwl
          rw [hwl] at hsp
          exact x_iret (ab_dd tk_cl_warmthBehind 87 rfl) ⟨rI (congrArg nI (by rw [hsp]; split <;> first | omega | (split <;> omega))), S, rfl, sEq.rf, hcl⟩
        · refine x_iconst 159 1 (ab_dd tk_cl_warmthBehind 83 rfl) rfl (by decide) (x_topn 1 rfl ?_)
          refine x_goto 163 (ab_dd tk_cl_warmthBehind 84 rfl) (by decide) ?_
          refine x_isub 164 (ab_dd tk_cl_warmthBehind 86 rfl) rfl (x_topn (((mWa w r) + 1) - 1) (pk_sub (by omega)) ?_)
          have hsp := spT_no hR hq hw hr hwl
          rw [hwl] at hsp
          exact x_iret (ab_dd tk_cl_warmthBehind 87 rfl) ⟨rI (congrArg nI (by rw [hsp]; split <;> first | omega | (split <;> omega))), S, rfl, sEq.rf, hcl⟩
    · have c5s := c5
      rw [hwl] at c5s
      obtain ⟨lb, l1, l2, l3, l4, l5, l6, l7⟩ := c5s
      have hlb := him lb l6
      have hlaw := ha.2.1 n cd hwl
      have hsp := spT_cl hR hq hw hr hwl
      rw [hwl] at hsp
      rw [hsp]
      have hwv5 := wV_lt a r (mWa w r) (qSe q r) (nbH (aR a) w q r) (nbS (mSea (rwS a)) (aR a) q r)
      obtain ⟨e, he1, he2, he3, he4⟩ := b2 ((((r * 5 + (mWa w r)) * 4 + (qSe q r)) * 9 + (nbH (aR a) w q r)) * 3 + (nbS (mSea (rwS a)) (aR a) q r)) (by omega)
      rw [wK_pl a how (by omega) (by omega) hsm] at he4
      refine x_aload_n 113 0 (ab_dd tk_cl_warmthBehind 59 rfl) rfl rfl rfl ?_
      refine t_getP 116 (x + 7) (ab_dd tk_cl_warmthBehind 60 rfl) rfl F_cl_38 (by rcases hK.1 with z | z <;> omega) (Nat.lt_of_le_of_lt (Nat.le_add_right x 9) hK.2.1) hK.2.2.1 rfl hK.2.2.2.2.2.2.2.2.2.2.2.1 ?_
      refine x_iload_n 117 1 (ab_dd tk_cl_warmthBehind 61 rfl) rfl rfl rfl ?_
      refine t_iald 118 r (ab_dd tk_cl_warmthBehind 62 rfl) rfl (by rcases hK.1 with z | z <;> omega) (Nat.lt_of_le_of_lt (Nat.add_le_add_left (by decide) x) hK.2.1) hK.2.2.2.2.2.1 rfl (by omega) (by decide) (x_topn (mWa w r) (hah r (by omega)) ?_)
      refine x_istore 120 [some (.ref x), some (.int (nI r)), some (.int (nI q)), some (.int (nI (qSe q r))), some (.int (nI (bsd (aR a) (qSe q r)))), some (.int (nI (nbH (aR a) w q r))), some (.int (nI (nbS (mSea (rwS a)) (aR a) q r))), some (.int (nI (mWa w r))), none] 7 (ab_dd tk_cl_warmthBehind 63 rfl) rfl (by decide) rfl ?_
      refine x_aload_n 121 0 (ab_dd tk_cl_warmthBehind 64 rfl) rfl rfl rfl ?_
      refine t_getP 124 c (ab_dd tk_cl_warmthBehind 65 rfl) rfl F_cl_12 (by rcases hK.1 with z | z <;> omega) (Nat.lt_of_le_of_lt (Nat.le_add_right x 9) hK.2.1) hK.2.2.1 rfl a2 ?_
      refine t_getP 127 lb (ab_dd tk_cl_warmthBehind 66 rfl) rfl F_cl_99 hk.1 (Nat.lt_of_le_of_lt (Nat.le_add_right c 2) hk.2.1) hk.2.2.1 rfl l1 ?_
      refine x_ifnonnull_t 165 (ab_dd tk_cl_warmthBehind 67 rfl) (by decide) ?_
      refine x_iload_n 166 1 (ab_dd tk_cl_warmthBehind 88 rfl) rfl rfl rfl ?_
      refine x_iconst 167 5 (ab_dd tk_cl_warmthBehind 89 rfl) rfl (by decide) (x_topn 5 rfl ?_)
      refine x_imul 168 (ab_dd tk_cl_warmthBehind 90 rfl) rfl (x_topn (r * 5) (pk_mul _ _) ?_)
      refine x_iload 170 7 (ab_dd tk_cl_warmthBehind 91 rfl) rfl rfl ?_
      refine x_iadd 171 (ab_dd tk_cl_warmthBehind 92 rfl) rfl (x_topn ((r * 5) + (mWa w r)) (nI_add _ _) ?_)
      refine x_iconst 172 4 (ab_dd tk_cl_warmthBehind 93 rfl) rfl (by decide) (x_topn 4 rfl ?_)
      refine x_imul 173 (ab_dd tk_cl_warmthBehind 94 rfl) rfl (x_topn (((r * 5) + (mWa w r)) * 4) (pk_mul _ _) ?_)
      refine x_iload_n 174 3 (ab_dd tk_cl_warmthBehind 95 rfl) rfl rfl rfl ?_
      refine x_iadd 175 (ab_dd tk_cl_warmthBehind 96 rfl) rfl (x_topn ((((r * 5) + (mWa w r)) * 4) + (qSe q r)) (nI_add _ _) ?_)
      refine x_bipush 177 9 (ab_dd tk_cl_warmthBehind 97 rfl) rfl (by decide) (x_topn 9 rfl ?_)
      refine x_imul 178 (ab_dd tk_cl_warmthBehind 98 rfl) rfl (x_topn (((((r * 5) + (mWa w r)) * 4) + (qSe q r)) * 9) (pk_mul _ _) ?_)
      refine x_iload 180 5 (ab_dd tk_cl_warmthBehind 99 rfl) rfl rfl ?_
      refine x_iadd 181 (ab_dd tk_cl_warmthBehind 100 rfl) rfl (x_topn ((((((r * 5) + (mWa w r)) * 4) + (qSe q r)) * 9) + (nbH (aR a) w q r)) (nI_add _ _) ?_)
      refine x_iconst 182 3 (ab_dd tk_cl_warmthBehind 101 rfl) rfl (by decide) (x_topn 3 rfl ?_)
      refine x_imul 183 (ab_dd tk_cl_warmthBehind 102 rfl) rfl (x_topn (((((((r * 5) + (mWa w r)) * 4) + (qSe q r)) * 9) + (nbH (aR a) w q r)) * 3) (pk_mul _ _) ?_)
      refine x_iload 185 6 (ab_dd tk_cl_warmthBehind 103 rfl) rfl rfl ?_
      refine x_iadd 186 (ab_dd tk_cl_warmthBehind 104 rfl) rfl (x_topn ((((((((r * 5) + (mWa w r)) * 4) + (qSe q r)) * 9) + (nbH (aR a) w q r)) * 3) + (nbS (mSea (rwS a)) (aR a) q r)) (nI_add _ _) ?_)
      refine x_istore 188 [some (.ref x), some (.int (nI r)), some (.int (nI q)), some (.int (nI (qSe q r))), some (.int (nI (bsd (aR a) (qSe q r)))), some (.int (nI (nbH (aR a) w q r))), some (.int (nI (nbS (mSea (rwS a)) (aR a) q r))), some (.int (nI (mWa w r))), some (.int (nI ((((((((r * 5) + (mWa w r)) * 4) + (qSe q r)) * 9) + (nbH (aR a) w q r)) * 3) + (nbS (mSea (rwS a)) (aR a) q r))))] 8 (ab_dd tk_cl_warmthBehind 105 rfl) rfl (by decide) rfl ?_
      refine x_iload 190 8 (ab_dd tk_cl_warmthBehind 106 rfl) rfl rfl ?_
      refine xn_if_lt 193 203 (ab_dd tk_cl_warmthBehind 107 rfl) rfl (by decide) (by omega) ?_
      refine x_iload 195 8 (ab_dd tk_cl_warmthBehind 108 rfl) rfl rfl ?_
      refine x_aload_n 196 0 (ab_dd tk_cl_warmthBehind 109 rfl) rfl rfl rfl ?_
      refine t_getP 199 (x + 5) (ab_dd tk_cl_warmthBehind 110 rfl) rfl F_cl_32 (by rcases hK.1 with z | z <;> omega) (Nat.lt_of_le_of_lt (Nat.le_add_right x 9) hK.2.1) hK.2.2.1 rfl hK.2.2.2.2.2.2.2.2.2.1 ?_
      refine t_alen 200 0 (ab_dd tk_cl_warmthBehind 111 rfl) rfl (by rcases hK.1 with z | z <;> omega) (Nat.lt_of_le_of_lt (Nat.add_le_add_left (by decide) x) hK.2.1) rfl hK.2.2.2.1 ?_
      refine x_icmp_lt_t 205 (ab_dd tk_cl_warmthBehind 112 rfl) (by decide) ((nI_ltI (a := ((((((((r * 5) + (mWa w r)) * 4) + (qSe q r)) * 9) + (nbH (aR a) w q r)) * 3) + (nbS (mSea (rwS a)) (aR a) q r))) (b := 2160) (by omega) (by omega)).mpr (show ((((((((r * 5) + (mWa w r)) * 4) + (qSe q r)) * 9) + (nbH (aR a) w q r)) * 3) + (nbS (mSea (rwS a)) (aR a) q r)) < 2160 by omega)) ?_
      refine x_aload_n 206 0 (ab_dd tk_cl_warmthBehind 115 rfl) rfl rfl rfl ?_
      refine t_getP 209 (x + 5) (ab_dd tk_cl_warmthBehind 116 rfl) rfl F_cl_32 (by rcases hK.1 with z | z <;> omega) (Nat.lt_of_le_of_lt (Nat.le_add_right x 9) hK.2.1) hK.2.2.1 rfl hK.2.2.2.2.2.2.2.2.2.1 ?_
      refine x_iload 211 8 (ab_dd tk_cl_warmthBehind 117 rfl) rfl rfl ?_
      refine t_iald 212 ((((((((r * 5) + (mWa w r)) * 4) + (qSe q r)) * 9) + (nbH (aR a) w q r)) * 3) + (nbS (mSea (rwS a)) (aR a) q r)) (ab_dd tk_cl_warmthBehind 118 rfl) rfl (by rcases hK.1 with z | z <;> omega) (Nat.lt_of_le_of_lt (Nat.add_le_add_left (by decide) x) hK.2.1) hK.2.2.2.1 rfl (by omega) (by decide) (x_topn e he1 ?_)
      refine x_iconst 213 3 (ab_dd tk_cl_warmthBehind 119 rfl) rfl (by decide) (x_topn 3 rfl ?_)
      refine x_ishr 214 (ab_dd tk_cl_warmthBehind 120 rfl) rfl (x_topn (e / 8) (pk_shrN he2 _ 3 (by decide)) ?_)
      refine x_aload_n 215 0 (ab_dd tk_cl_warmthBehind 121 rfl) rfl rfl rfl ?_
      refine t_getI 218 (ab_dd tk_cl_warmthBehind 122 rfl) rfl F_cl_25 (by rcases hK.1 with z | z <;> omega) (Nat.lt_of_le_of_lt (Nat.le_add_right x 9) hK.2.1) hK.2.2.1 rfl (x_topn st a5 ?_)
      refine xn_icmp_eq 221 289 (ab_dd tk_cl_warmthBehind 123 rfl) rfl (by decide) (by omega) (by omega) (fun h218 => ?_) (fun h218 => ?_)
      · refine x_aload_n 290 0 (ab_dd tk_cl_warmthBehind 162 rfl) rfl rfl rfl ?_
        refine t_getP 293 (x + 5) (ab_dd tk_cl_warmthBehind 163 rfl) rfl F_cl_32 (by rcases hK.1 with z | z <;> omega) (Nat.lt_of_le_of_lt (Nat.le_add_right x 9) hK.2.1) hK.2.2.1 rfl hK.2.2.2.2.2.2.2.2.2.1 ?_
        refine x_iload 295 8 (ab_dd tk_cl_warmthBehind 164 rfl) rfl rfl ?_
        refine t_iald 296 ((((((((r * 5) + (mWa w r)) * 4) + (qSe q r)) * 9) + (nbH (aR a) w q r)) * 3) + (nbS (mSea (rwS a)) (aR a) q r)) (ab_dd tk_cl_warmthBehind 165 rfl) rfl (by rcases hK.1 with z | z <;> omega) (Nat.lt_of_le_of_lt (Nat.add_le_add_left (by decide) x) hK.2.1) hK.2.2.2.1 rfl (by omega) (by decide) (x_topn e he1 ?_)
        refine x_bipush 298 7 (ab_dd tk_cl_warmthBehind 166 rfl) rfl (by decide) (x_topn 7 rfl ?_)
        refine x_iand 299 (ab_dd tk_cl_warmthBehind 167 rfl) rfl (x_topn (e % 8) (nI_mask he2 3 (by decide)) ?_)
        exact x_iret (ab_dd tk_cl_warmthBehind 168 rfl) ⟨rI (congrArg nI (he4 h218)), S, rfl, sEq.rf, hcl⟩
      · refine x_aload_n 222 0 (ab_dd tk_cl_warmthBehind 124 rfl) rfl rfl rfl ?_
        refine x_iload_n 223 1 (ab_dd tk_cl_warmthBehind 125 rfl) rfl rfl rfl ?_
        refine x_iload 225 7 (ab_dd tk_cl_warmthBehind 126 rfl) rfl rfl ?_
        refine x_iload_n 226 3 (ab_dd tk_cl_warmthBehind 127 rfl) rfl rfl rfl ?_
        refine t_callV 229 M_cl_nameRider 1 3 [_, _, _] (ab_dd tk_cl_warmthBehind 128 rfl) rfl (by first | decide | omega) K_cl_nameRider V_cl_nameRider.1 V_cl_nameRider.2 L_cl_82 rfl (Nat.le_of_ble_eq_true rfl) (by rcases hK.1 with z | z <;> omega) (Nat.lt_of_le_of_lt (Nat.le_add_right x 9) hK.2.1) hK.2.2.1 rfl (c_cl_nameRider (by exact hK) him (by exact hcl) ha.1 r (mWa w r) (qSe q r) (by omega) how (by omega)) (fun v1 w1 h1 => ?_)
        obtain ⟨rfl, S1, rfl, hE1, n1, n2, n3, n4, n5, n6, n7⟩ := h1
        have hK1 : clK S1 x := hK.eq hE1
        have p5 : sI S1 x 5 = nI st := by rw [hE1.2.2.1 x (by simp only [List.mem_cons, List.not_mem_nil, or_false, not_or]; omega)]; exact a5
        have p2 : sP S1 x 2 = some c := by rw [hE1.2.2.2.2.1]; exact a2
        have pl1 : sP S1 c 7 = some lb := by rw [hE1.2.2.2.2.1]; exact l1
        have hcs1 : c < sn S1 := by rw [hE1.2.2.2.2.2.1]; exact Nat.lt_of_le_of_lt (Nat.le_add_right c 2) hk.2.1
        have hck1 : sK S1 c = .inr 0 := by rw [hE1.2.1]; exact hk.2.2.1
        refine x_aload_n 230 0 (ab_dd tk_cl_warmthBehind 129 rfl) rfl rfl rfl ?_
        refine t_getP 233 (x + 8) (ab_dd tk_cl_warmthBehind 130 rfl) rfl F_cl_41 (by rcases hK1.1 with z | z <;> omega) (Nat.lt_of_le_of_lt (Nat.le_add_right x 9) hK1.2.1) hK1.2.2.1 rfl hK1.2.2.2.2.2.2.2.2.2.2.2.2.1 ?_
        refine x_bipush 235 7 (ab_dd tk_cl_warmthBehind 131 rfl) rfl (by decide) (x_topn 7 rfl ?_)
        refine x_iload 237 4 (ab_dd tk_cl_warmthBehind 132 rfl) rfl rfl ?_
        refine t_iast 238 7 (ab_dd tk_cl_warmthBehind 133 rfl) rfl (by rcases hK1.1 with z | z <;> omega) (Nat.lt_of_le_of_lt (Nat.add_le_add_left (by decide) x) hK1.2.1) hK1.2.2.2.2.2.2.1 rfl (by decide) (by decide) ?_
        refine x_aload_n 239 0 (ab_dd tk_cl_warmthBehind 134 rfl) rfl rfl rfl ?_
        refine t_getP 242 (x + 8) (ab_dd tk_cl_warmthBehind 135 rfl) rfl F_cl_41 (by rcases hK1.1 with z | z <;> omega) (Nat.lt_of_le_of_lt (Nat.le_add_right x 9) hK1.2.1) hK1.2.2.1 rfl hK1.2.2.2.2.2.2.2.2.2.2.2.2.1 ?_
        refine x_bipush 244 8 (ab_dd tk_cl_warmthBehind 136 rfl) rfl (by decide) (x_topn 8 rfl ?_)
        refine x_iload 246 5 (ab_dd tk_cl_warmthBehind 137 rfl) rfl rfl ?_
        refine t_iast 247 8 (ab_dd tk_cl_warmthBehind 138 rfl) rfl (by rcases hK1.1 with z | z <;> omega) (Nat.lt_of_le_of_lt (Nat.add_le_add_left (by decide) x) hK1.2.1) hK1.2.2.2.2.2.2.1 rfl (by decide) (by decide) ?_
        refine x_aload_n 248 0 (ab_dd tk_cl_warmthBehind 139 rfl) rfl rfl rfl ?_
        refine t_getP 251 (x + 8) (ab_dd tk_cl_warmthBehind 140 rfl) rfl F_cl_41 (by rcases hK1.1 with z | z <;> omega) (Nat.lt_of_le_of_lt (Nat.le_add_right x 9) hK1.2.1) hK1.2.2.1 rfl hK1.2.2.2.2.2.2.2.2.2.2.2.2.1 ?_
        refine x_bipush 253 9 (ab_dd tk_cl_warmthBehind 141 rfl) rfl (by decide) (x_topn 9 rfl ?_)
        refine x_iload 255 6 (ab_dd tk_cl_warmthBehind 142 rfl) rfl rfl ?_
        refine t_iast 256 9 (ab_dd tk_cl_warmthBehind 143 rfl) rfl (by rcases hK1.1 with z | z <;> omega) (Nat.lt_of_le_of_lt (Nat.add_le_add_left (by decide) x) hK1.2.1) hK1.2.2.2.2.2.2.1 rfl (by decide) (by decide) ?_
        refine x_aload_n 257 0 (ab_dd tk_cl_warmthBehind 144 rfl) rfl rfl rfl ?_
        refine t_getP 260 (x + 5) (ab_dd tk_cl_warmthBehind 145 rfl) rfl F_cl_32 (by rcases hK1.1 with z | z <;> omega) (Nat.lt_of_le_of_lt (Nat.le_add_right x 9) hK1.2.1) hK1.2.2.1 rfl hK1.2.2.2.2.2.2.2.2.2.1 ?_
        refine x_iload 262 8 (ab_dd tk_cl_warmthBehind 146 rfl) rfl rfl ?_
        refine x_aload_n 263 0 (ab_dd tk_cl_warmthBehind 147 rfl) rfl rfl rfl ?_
        refine t_getI 266 (ab_dd tk_cl_warmthBehind 148 rfl) rfl F_cl_25 (by rcases hK1.1 with z | z <;> omega) (Nat.lt_of_le_of_lt (Nat.le_add_right x 9) hK1.2.1) hK1.2.2.1 rfl (x_topn st ((gI_a (by omega)).trans ((gI_a (by omega)).trans ((gI_a (by omega)).trans p5))) ?_)
        refine x_iconst 267 3 (ab_dd tk_cl_warmthBehind 149 rfl) rfl (by decide) (x_topn 3 rfl ?_)
        refine x_ishl 268 (ab_dd tk_cl_warmthBehind 150 rfl) rfl (x_topn (2 ^ 3 * st) (by rw [pk_shlN _ 3 (by decide) (by omega)]; congr 1; omega) ?_)
        refine x_iconst 269 0 (ab_dd tk_cl_warmthBehind 151 rfl) rfl (by decide) (x_topn 0 rfl ?_)
        refine x_iconst 270 4 (ab_dd tk_cl_warmthBehind 152 rfl) rfl (by decide) (x_topn 4 rfl ?_)
        refine x_aload_n 271 0 (ab_dd tk_cl_warmthBehind 153 rfl) rfl rfl rfl ?_
        refine x_aload_n 272 0 (ab_dd tk_cl_warmthBehind 154 rfl) rfl rfl rfl ?_
        refine t_getP 275 c (ab_dd tk_cl_warmthBehind 155 rfl) rfl F_cl_12 (by rcases hK1.1 with z | z <;> omega) (Nat.lt_of_le_of_lt (Nat.le_add_right x 9) hK1.2.1) hK1.2.2.1 rfl p2 ?_
        refine t_getP 278 lb (ab_dd tk_cl_warmthBehind 156 rfl) rfl F_cl_99 hk.1 hcs1 hck1 rfl pl1 ?_
        have hEt : sEq [x + 8] S (pI (pI (pI S1 (x + 8) 7 (nI (bsd (aR a) (qSe q r)))) (x + 8) 8 (nI (nbH (aR a) w q r))) (x + 8) 9 (nI (nbS (mSea (rwS a)) (aR a) q r))) := (((hE1.pI (List.Mem.head _)).pI (List.Mem.head _)).pI (List.Mem.head _))
        have m1 := (show sI (pI (pI (pI S1 (x + 8) 7 (nI (bsd (aR a) (qSe q r)))) (x + 8) 8 (nI (nbH (aR a) w q r))) (x + 8) 9 (nI (nbS (mSea (rwS a)) (aR a) q r))) (x + 8) 1 = nI r from ((gI_k (by decide)).trans ((gI_k (by decide)).trans ((gI_k (by decide)).trans n1))))
        have m2 := (show sI (pI (pI (pI S1 (x + 8) 7 (nI (bsd (aR a) (qSe q r)))) (x + 8) 8 (nI (nbH (aR a) w q r))) (x + 8) 9 (nI (nbS (mSea (rwS a)) (aR a) q r))) (x + 8) 2 = a (28 + r) from ((gI_k (by decide)).trans ((gI_k (by decide)).trans ((gI_k (by decide)).trans n2))))
        have m3 := (show sI (pI (pI (pI S1 (x + 8) 7 (nI (bsd (aR a) (qSe q r)))) (x + 8) 8 (nI (nbH (aR a) w q r))) (x + 8) 9 (nI (nbS (mSea (rwS a)) (aR a) q r))) (x + 8) 3 = a (8 + r) from ((gI_k (by decide)).trans ((gI_k (by decide)).trans ((gI_k (by decide)).trans n3))))
        have m4 := (show sI (pI (pI (pI S1 (x + 8) 7 (nI (bsd (aR a) (qSe q r)))) (x + 8) 8 (nI (nbH (aR a) w q r))) (x + 8) 9 (nI (nbS (mSea (rwS a)) (aR a) q r))) (x + 8) 4 = nI (mWa w r) from ((gI_k (by decide)).trans ((gI_k (by decide)).trans ((gI_k (by decide)).trans n4))))
        have m5 := (show sI (pI (pI (pI S1 (x + 8) 7 (nI (bsd (aR a) (qSe q r)))) (x + 8) 8 (nI (nbH (aR a) w q r))) (x + 8) 9 (nI (nbS (mSea (rwS a)) (aR a) q r))) (x + 8) 5 = nI (qSe q r) from ((gI_k (by decide)).trans ((gI_k (by decide)).trans ((gI_k (by decide)).trans n5))))
        have m6 := (show sI (pI (pI (pI S1 (x + 8) 7 (nI (bsd (aR a) (qSe q r)))) (x + 8) 8 (nI (nbH (aR a) w q r))) (x + 8) 9 (nI (nbS (mSea (rwS a)) (aR a) q r))) (x + 8) 6 = a 40 from ((gI_k (by decide)).trans ((gI_k (by decide)).trans ((gI_k (by decide)).trans n6))))
        have m7 := (show sI (pI (pI (pI S1 (x + 8) 7 (nI (bsd (aR a) (qSe q r)))) (x + 8) 8 (nI (nbH (aR a) w q r))) (x + 8) 9 (nI (nbS (mSea (rwS a)) (aR a) q r))) (x + 8) 7 = nI (bsd (aR a) (qSe q r)) from ((gI_k (by decide)).trans ((gI_k (by decide)).trans gI_s)))
        have m8 := (show sI (pI (pI (pI S1 (x + 8) 7 (nI (bsd (aR a) (qSe q r)))) (x + 8) 8 (nI (nbH (aR a) w q r))) (x + 8) 9 (nI (nbS (mSea (rwS a)) (aR a) q r))) (x + 8) 8 = nI (nbH (aR a) w q r) from ((gI_k (by decide)).trans gI_s))
        have m9 := (show sI (pI (pI (pI S1 (x + 8) 7 (nI (bsd (aR a) (qSe q r)))) (x + 8) 8 (nI (nbH (aR a) w q r))) (x + 8) 9 (nI (nbS (mSea (rwS a)) (aR a) q r))) (x + 8) 9 = nI (nbS (mSea (rwS a)) (aR a) q r) from gI_s)
        refine t_callV 281 M_cl_worked 1 1 [_] (ab_dd tk_cl_warmthBehind 157 rfl) rfl (by first | decide | omega) K_cl_worked V_cl_worked.1 V_cl_worked.2 L_cl_86 rfl (Nat.le_of_ble_eq_true rfl) (by rcases hK1.1 with z | z <;> omega) (Nat.lt_of_le_of_lt (Nat.le_add_right x 9) hK1.2.1) hK1.2.2.1 rfl (c_cl_worked (by exact hK1) (b := lb) (n := n) (u := nI 1009) (cd := cd) (wd := (spW (nI r) (mSea (rwS a) r) (mCls (rwS a) r) (nI (mWa w r)) (nI (qSe q r)) (a 40) (nI (bsd (aR a) (qSe q r))) (nI (nbH (aR a) w q r)) (nI (nbS (mSea (rwS a)) (aR a) q r)))) l2 (by rw [hEt.2.2.2.2.2.1]; exact l3) (by rw [hEt.2.1]; exact l4) (by omega) hlaw (fun j hj => by rw [hEt.2.2.1 lb (by simp only [List.mem_cons, List.not_mem_nil, or_false, not_or]; omega)]; exact l7 j hj) (fun i hi => by
          have hc : i = 0 ∨ i = 1 ∨ i = 2 ∨ i = 3 ∨ i = 4 ∨ i = 5 ∨ i = 6 ∨ i = 7 ∨ i = 8 := by omega
          rcases hc with rfl | rfl | rfl | rfl | rfl | rfl | rfl | rfl | rfl
          · exact m1
          · exact m2.trans (aOk.sea (by omega)).symm
          · exact m3.trans (aOk.cls (by omega)).symm
          · exact m4
          · exact m5
          · exact m6
          · exact m7
          · exact m8
          · exact m9)) (fun v1 w1 h1 => ?_)
        obtain ⟨rfl, S2, rfl, hE2⟩ := h1
        have hK2 : clK S2 x := clK.eq (by exact hK1) hE2
        have q5 : sI S2 x 5 = nI st := by rw [hE2.2.2.1 x (by simp only [List.mem_cons, List.not_mem_nil, or_false, not_or]; omega), hEt.2.2.1 x (by simp only [List.mem_cons, List.not_mem_nil, or_false, not_or]; omega)]; exact a5
        have hwv : wV a r (mWa w r) (qSe q r) (nbH (aR a) w q r) (nbS (mSea (rwS a)) (aR a) q r) = cl4 (lvV (spW (nI r) (mSea (rwS a) r) (mCls (rwS a) r) (nI (mWa w r)) (nI (qSe q r)) (a 40) (nI (bsd (aR a) (qSe q r))) (nI (nbH (aR a) w q r)) (nI (nbS (mSea (rwS a)) (aR a) q r))) cd n) := by unfold wV; rw [hwl]
        refine x_callS 284 M_jM_min 0 2 [_, _] (ab_dd tk_cl_warmthBehind 158 rfl) rfl (by first | decide | omega) K_jM_min T_jM_min L_cl_102 rfl (Nat.le_of_ble_eq_true rfl) (c_jM_min _ (nI 4) _) (fun v1 w1 h1 => ?_)
        obtain ⟨rfl, rfl⟩ := h1
        refine x_callS 287 M_jM_max 0 2 [_, _] (ab_dd tk_cl_warmthBehind 159 rfl) rfl (by first | decide | omega) K_jM_max T_jM_max L_cl_107 rfl (Nat.le_of_ble_eq_true rfl) (c_jM_max _ (nI 0) _) (fun v1 w1 h1 => ?_)
        obtain ⟨rfl, rfl⟩ := h1
        rw [mm_cl4, ← hwv]
        refine x_ior 288 (ab_dd tk_cl_warmthBehind 160 rfl) rfl (x_topn (2 ^ 3 * st + (wV a r (mWa w r) (qSe q r) (nbH (aR a) w q r) (nbS (mSea (rwS a)) (aR a) q r))) (fa_or_sum st (by omega)) ?_)
        refine t_iast 289 ((((((((r * 5) + (mWa w r)) * 4) + (qSe q r)) * 9) + (nbH (aR a) w q r)) * 3) + (nbS (mSea (rwS a)) (aR a) q r)) (ab_dd tk_cl_warmthBehind 161 rfl) rfl (by rcases hK2.1 with z | z <;> omega) (Nat.lt_of_le_of_lt (Nat.add_le_add_left (by decide) x) hK2.2.1) hK2.2.2.2.1 rfl (by omega) (by decide) ?_
        refine x_aload_n 290 0 (ab_dd tk_cl_warmthBehind 162 rfl) rfl rfl rfl ?_
        refine t_getP 293 (x + 5) (ab_dd tk_cl_warmthBehind 163 rfl) rfl F_cl_32 (by rcases hK2.1 with z | z <;> omega) (Nat.lt_of_le_of_lt (Nat.le_add_right x 9) hK2.2.1) hK2.2.2.1 rfl hK2.2.2.2.2.2.2.2.2.2.1 ?_
        refine x_iload 295 8 (ab_dd tk_cl_warmthBehind 164 rfl) rfl rfl ?_
        refine t_iald 296 ((((((((r * 5) + (mWa w r)) * 4) + (qSe q r)) * 9) + (nbH (aR a) w q r)) * 3) + (nbS (mSea (rwS a)) (aR a) q r)) (ab_dd tk_cl_warmthBehind 165 rfl) rfl (by rcases hK2.1 with z | z <;> omega) (Nat.lt_of_le_of_lt (Nat.add_le_add_left (by decide) x) hK2.2.1) hK2.2.2.2.1 rfl (by omega) (by decide) (x_topn (2 ^ 3 * st + (wV a r (mWa w r) (qSe q r) (nbH (aR a) w q r) (nbS (mSea (rwS a)) (aR a) q r))) gI_s ?_)
        refine x_bipush 298 7 (ab_dd tk_cl_warmthBehind 166 rfl) rfl (by decide) (x_topn 7 rfl ?_)
        refine x_iand 299 (ab_dd tk_cl_warmthBehind 167 rfl) rfl (x_topn (wV a r (mWa w r) (qSe q r) (nbH (aR a) w q r) (nbS (mSea (rwS a)) (aR a) q r)) ((nI_mask (by omega) 3 (by decide)).trans (congrArg nI (by omega))) ?_)
        have hE3 : sEq [x + 5, x + 8, x + 9] S (pI S2 (x + 5) ((((r * 5 + (mWa w r)) * 4 + (qSe q r)) * 9 + (nbH (aR a) w q r)) * 3 + (nbS (mSea (rwS a)) (aR a) q r)) (nI (2 ^ 3 * st + (wV a r (mWa w r) (qSe q r) (nbH (aR a) w q r) (nbS (mSea (rwS a)) (aR a) q r))))) := ((hEt.mono (fun y hy => by rw [List.mem_singleton.mp hy]; exact List.Mem.tail _ (List.Mem.head _))).tr (hE2.mono (fun y hy => by rw [List.mem_singleton.mp hy]; exact List.Mem.tail _ (List.Mem.tail _ (List.Mem.head _))))).pI (List.Mem.head _)
        exact x_iret (ab_dd tk_cl_warmthBehind 168 rfl) ⟨rfl, _, rfl, hE3, hcl.mk (l := [x + 5, x + 8, x + 9]) hE3 (by simp only [List.mem_cons, List.not_mem_nil, or_false, not_or]; omega) (fun y hy => by simp only [List.mem_cons, List.not_mem_nil, or_false] at hy; rcases hy with rfl | rfl | rfl <;> exact hnim _ (by decide)) (b1.eq (hE3.2.2.1 _ (by simp only [List.mem_cons, List.not_mem_nil, or_false, not_or]; omega))) (b2.up (i := ((((r * 5 + (mWa w r)) * 4 + (qSe q r)) * 9 + (nbH (aR a) w q r)) * 3 + (nbS (mSea (rwS a)) (aR a) q r))) (v := (wV a r (mWa w r) (qSe q r) (nbH (aR a) w q r) (nbS (mSea (rwS a)) (aR a) q r))) (upd_row _ _ ((hE2.2.2.1 _ (by simp only [List.mem_cons, List.not_mem_nil, or_false, not_or]; omega)).trans (hEt.2.2.1 _ (by simp only [List.mem_cons, List.not_mem_nil, or_false, not_or]; omega)))) (by omega) (by rw [wK_pl a how (by omega) (by omega) hsm]) (by omega)) (b3.eq (hE3.2.2.1 _ (by simp only [List.mem_cons, List.not_mem_nil, or_false, not_or]; omega)))⟩
  have hd4 : ∀ o, o < aR a → (d4 (seaC a) o = d4 (seaC a) r ↔ mSea (rwS a) o = mSea (rwS a) r) := by
    intro o ho
    rw [aOk.sea (by omega), aOk.sea (by omega), ← seaC_v ha.1 (show o < 4 by omega), ← seaC_v ha.1 (show r < 4 by omega), nI_eq (Nat.lt_trans (d4_lt _ _) (by decide)) (Nat.lt_trans (d4_lt _ _) (by decide))]
  have hH1 : (if 1 ≤ qSe q r then mWa w (qRi q (qSe q r - 1)) else 0) ≤ 4 := by have := mWa_lt w (qRi q (qSe q r - 1)); split <;> omega
  have hM1 : (if 1 ≤ qSe q r then (if mSea (rwS a) (qRi q (qSe q r - 1)) = mSea (rwS a) r then 1 else 0) else 0) ≤ 1 := by split; (· split <;> omega); (· omega)
  have hB1 : (if 1 ≤ qSe q r then 1 else 0) ≤ 1 := by split <;> omega
  have sec : ∀ y8 : Option Value, ab_Ex G 2 M_cl_warmthBehind 24 [some (.ref x), some (.int (nI r)), some (.int (nI q)), some (.int (nI (qSe q r))), some (.int (nI (if 1 ≤ qSe q r then 1 else 0))), some (.int (nI (if 1 ≤ qSe q r then mWa w (qRi q (qSe q r - 1)) else 0))), some (.int (nI (if 1 ≤ qSe q r then (if mSea (rwS a) (qRi q (qSe q r - 1)) = mSea (rwS a) r then 1 else 0) else 0))), some (.int (nI (qSe q r + 1))), y8] [] (sw S) (fun v w' => v = some (.int (nI (spT (mWl (rwS a)) (mSea (rwS a)) (mCls (rwS a)) (aR a) (a 40) (cSt (aR a) w q) r))) ∧ ∃ S', w' = sw S' ∧ sEq [x + 5, x + 8, x + 9] S S' ∧ clI S' im x c a bh nb st) := by
    intro y8
    refine x_forget 8 ?_
    refine x_iload 26 7 (ab_dd tk_cl_warmthBehind 16 rfl) rfl rfl ?_
    refine x_iload_n 27 3 (ab_dd tk_cl_warmthBehind 17 rfl) rfl rfl rfl ?_
    refine x_iconst 28 1 (ab_dd tk_cl_warmthBehind 18 rfl) rfl (by decide) (x_topn 1 rfl ?_)
    refine x_iadd 29 (ab_dd tk_cl_warmthBehind 19 rfl) rfl (x_topn ((qSe q r) + 1) (nI_add _ _) ?_)
    refine x_icmp_gt_f 32 (ab_dd tk_cl_warmthBehind 20 rfl) rfl 112 (by decide) (fun z => absurd ((nI_ltI (a := ((qSe q r) + 1)) (b := (qSe q r + 1)) (by omega) (by omega)).mp z) (show ¬ (((qSe q r) + 1) < (qSe q r + 1)) by omega)) ?_
    refine x_iload 34 7 (ab_dd tk_cl_warmthBehind 21 rfl) rfl rfl ?_
    refine xn_if_lt 37 106 (ab_dd tk_cl_warmthBehind 22 rfl) rfl (by decide) (by omega) ?_
    refine x_iload 39 7 (ab_dd tk_cl_warmthBehind 23 rfl) rfl rfl ?_
    refine x_aload_n 40 0 (ab_dd tk_cl_warmthBehind 24 rfl) rfl rfl rfl ?_
    refine t_getP 43 c (ab_dd tk_cl_warmthBehind 25 rfl) rfl F_cl_12 (by rcases hK.1 with z | z <;> omega) (Nat.lt_of_le_of_lt (Nat.le_add_right x 9) hK.2.1) hK.2.2.1 rfl a2 ?_
    refine t_getI 46 (ab_dd tk_cl_warmthBehind 26 rfl) rfl F_cl_60 hk.1 (Nat.lt_of_le_of_lt (Nat.le_add_right c 2) hk.2.1) hk.2.2.1 rfl (x_topn (aR a) c1 ?_)
    refine xn_icmp_ge 49 106 (ab_dd tk_cl_warmthBehind 27 rfl) rfl (by decide) (by omega) (by omega) (fun h46 => ?_) (fun h46 => ?_)
    · refine xn_iinc 109 7 (fun y => [some (.ref x), some (.int (nI r)), some (.int (nI q)), some (.int (nI (qSe q r))), some (.int (nI (if 1 ≤ qSe q r then 1 else 0))), some (.int (nI (if 1 ≤ qSe q r then mWa w (qRi q (qSe q r - 1)) else 0))), some (.int (nI (if 1 ≤ qSe q r then (if mSea (rwS a) (qRi q (qSe q r - 1)) = mSea (rwS a) r then 1 else 0) else 0))), some (.int y), none]) ((qSe q r + 1) + 2) (ab_dd tk_cl_warmthBehind 57 rfl) rfl (by decide) rfl (fun _ => rfl) (iinc_p 2) ?_
      refine x_goto 24 (ab_dd tk_cl_warmthBehind 58 rfl) (by decide) ?_
      refine x_iload 26 7 (ab_dd tk_cl_warmthBehind 16 rfl) rfl rfl ?_
      refine x_iload_n 27 3 (ab_dd tk_cl_warmthBehind 17 rfl) rfl rfl rfl ?_
      refine x_iconst 28 1 (ab_dd tk_cl_warmthBehind 18 rfl) rfl (by decide) (x_topn 1 rfl ?_)
      refine x_iadd 29 (ab_dd tk_cl_warmthBehind 19 rfl) rfl (x_topn ((qSe q r) + 1) (nI_add _ _) ?_)
      refine x_icmp_gt_t 112 (ab_dd tk_cl_warmthBehind 20 rfl) (by decide) ((nI_ltI (a := ((qSe q r) + 1)) (b := ((qSe q r + 1) + 2)) (by omega) (by omega)).mpr (show ((qSe q r) + 1) < ((qSe q r + 1) + 2) by omega)) ?_
      have e1 : (if 1 ≤ qSe q r then 1 else 0) = (bsd (aR a) (qSe q r)) := by unfold bsd; rw [if_neg (show ¬ qSe q r + 1 < aR a by omega)] <;> rfl
      have e2 : (if 1 ≤ qSe q r then mWa w (qRi q (qSe q r - 1)) else 0) = (nbH (aR a) w q r) := by unfold nbH; rw [if_neg (show ¬ qSe q r + 1 < aR a by omega)] <;> rfl
      have e3 : (if 1 ≤ qSe q r then (if mSea (rwS a) (qRi q (qSe q r - 1)) = mSea (rwS a) r then 1 else 0) else 0) = (nbS (mSea (rwS a)) (aR a) q r) := by unfold nbS; rw [if_neg (show ¬ qSe q r + 1 < aR a by omega)] <;> rfl
      rw [e1, e2, e3]
      exact after _ _
    · have hot : qRi q (qSe q r + 1) < aR a := (hB.2.2.2.2.1 (qSe q r + 1) h46).2.1
      have hwo := mWa_lt w (qRi q (qSe q r + 1))
      have hd1 := d4_lt (seaC a) (qRi q (qSe q r + 1))
      have hd2 := d4_lt (seaC a) r
      refine x_aload_n 50 0 (ab_dd tk_cl_warmthBehind 28 rfl) rfl rfl rfl ?_
      refine t_getP 53 78 (ab_dd tk_cl_warmthBehind 29 rfl) rfl F_cl_47 (by rcases hK.1 with z | z <;> omega) (Nat.lt_of_le_of_lt (Nat.le_add_right x 9) hK.2.1) hK.2.2.1 rfl hK.2.2.2.2.2.2.2.2.1 ?_
      refine x_iload_n 54 2 (ab_dd tk_cl_warmthBehind 30 rfl) rfl rfl rfl ?_
      refine x_iload 56 7 (ab_dd tk_cl_warmthBehind 31 rfl) rfl rfl ?_
      refine t_callV 59 M_se_riderIn 0 2 [_, _] (ab_dd tk_cl_warmthBehind 32 rfl) rfl (by first | decide | omega) K_se_riderIn V_se_riderIn.1 V_se_riderIn.2 L_cl_69 rfl (Nat.le_of_ble_eq_true rfl) (by decide) (Nat.lt_of_lt_of_le (by decide) hx.1) (hx.2.1 28 (by decide)) rfl (c_se_riderIn (by exact hx) (by exact hse) q (qSe q r + 1) (by omega) (by omega)) (fun v1 w1 h1 => ?_)
      obtain ⟨rfl, rfl⟩ := h1
      refine x_istore 61 [some (.ref x), some (.int (nI r)), some (.int (nI q)), some (.int (nI (qSe q r))), some (.int (nI (if 1 ≤ qSe q r then 1 else 0))), some (.int (nI (if 1 ≤ qSe q r then mWa w (qRi q (qSe q r - 1)) else 0))), some (.int (nI (if 1 ≤ qSe q r then (if mSea (rwS a) (qRi q (qSe q r - 1)) = mSea (rwS a) r then 1 else 0) else 0))), some (.int (nI (qSe q r + 1))), some (.int (nI (qRi q (qSe q r + 1))))] 8 (ab_dd tk_cl_warmthBehind 33 rfl) rfl (by decide) rfl ?_
      refine xn_iinc 64 4 (fun y => [some (.ref x), some (.int (nI r)), some (.int (nI q)), some (.int (nI (qSe q r))), some (.int y), some (.int (nI (if 1 ≤ qSe q r then mWa w (qRi q (qSe q r - 1)) else 0))), some (.int (nI (if 1 ≤ qSe q r then (if mSea (rwS a) (qRi q (qSe q r - 1)) = mSea (rwS a) r then 1 else 0) else 0))), some (.int (nI (qSe q r + 1))), some (.int (nI (qRi q (qSe q r + 1))))]) ((if 1 ≤ qSe q r then 1 else 0) + 1) (ab_dd tk_cl_warmthBehind 34 rfl) rfl (by decide) rfl (fun _ => rfl) (iinc_p 1) ?_
      refine x_iload 66 5 (ab_dd tk_cl_warmthBehind 35 rfl) rfl rfl ?_
      refine x_aload_n 67 0 (ab_dd tk_cl_warmthBehind 36 rfl) rfl rfl rfl ?_
      refine t_getP 70 (x + 7) (ab_dd tk_cl_warmthBehind 37 rfl) rfl F_cl_38 (by rcases hK.1 with z | z <;> omega) (Nat.lt_of_le_of_lt (Nat.le_add_right x 9) hK.2.1) hK.2.2.1 rfl hK.2.2.2.2.2.2.2.2.2.2.2.1 ?_
      refine x_iload 72 8 (ab_dd tk_cl_warmthBehind 38 rfl) rfl rfl ?_
      refine t_iald 73 (qRi q (qSe q r + 1)) (ab_dd tk_cl_warmthBehind 39 rfl) rfl (by rcases hK.1 with z | z <;> omega) (Nat.lt_of_le_of_lt (Nat.add_le_add_left (by decide) x) hK.2.1) hK.2.2.2.2.2.1 rfl (by omega) (by decide) (x_topn (mWa w (qRi q (qSe q r + 1))) (hah (qRi q (qSe q r + 1)) (by omega)) ?_)
      refine x_iadd 74 (ab_dd tk_cl_warmthBehind 40 rfl) rfl (x_topn ((if 1 ≤ qSe q r then mWa w (qRi q (qSe q r - 1)) else 0) + (mWa w (qRi q (qSe q r + 1)))) (nI_add _ _) ?_)
      refine x_istore 76 [some (.ref x), some (.int (nI r)), some (.int (nI q)), some (.int (nI (qSe q r))), some (.int (nI ((if 1 ≤ qSe q r then 1 else 0) + 1))), some (.int (nI ((if 1 ≤ qSe q r then mWa w (qRi q (qSe q r - 1)) else 0) + (mWa w (qRi q (qSe q r + 1)))))), some (.int (nI (if 1 ≤ qSe q r then (if mSea (rwS a) (qRi q (qSe q r - 1)) = mSea (rwS a) r then 1 else 0) else 0))), some (.int (nI (qSe q r + 1))), some (.int (nI (qRi q (qSe q r + 1))))] 5 (ab_dd tk_cl_warmthBehind 41 rfl) rfl (by decide) rfl ?_
      refine x_iload 78 6 (ab_dd tk_cl_warmthBehind 42 rfl) rfl rfl ?_
      refine x_aload_n 79 0 (ab_dd tk_cl_warmthBehind 43 rfl) rfl rfl rfl ?_
      refine t_getI 82 (ab_dd tk_cl_warmthBehind 44 rfl) rfl F_cl_18 (by rcases hK.1 with z | z <;> omega) (Nat.lt_of_le_of_lt (Nat.le_add_right x 9) hK.2.1) hK.2.2.1 rfl (x_topn (seaC a) a3 ?_)
      refine x_iload 84 8 (ab_dd tk_cl_warmthBehind 45 rfl) rfl rfl ?_
      refine x_callS 87 M_s_seasonOf 0 2 [_, _] (ab_dd tk_cl_warmthBehind 46 rfl) rfl (by first | decide | omega) K_s_seasonOf T_s_seasonOf L_cl_96 rfl (Nat.le_of_ble_eq_true rfl) (c_s_seasonOf (seaC a) (qRi q (qSe q r + 1)) (by omega) (by omega)) (fun v1 w1 h1 => ?_)
      obtain ⟨rfl, rfl⟩ := h1
      refine x_aload_n 88 0 (ab_dd tk_cl_warmthBehind 47 rfl) rfl rfl rfl ?_
      refine t_getI 91 (ab_dd tk_cl_warmthBehind 48 rfl) rfl F_cl_18 (by rcases hK.1 with z | z <;> omega) (Nat.lt_of_le_of_lt (Nat.le_add_right x 9) hK.2.1) hK.2.2.1 rfl (x_topn (seaC a) a3 ?_)
      refine x_iload_n 92 1 (ab_dd tk_cl_warmthBehind 49 rfl) rfl rfl rfl ?_
      refine x_callS 95 M_s_seasonOf 0 2 [_, _] (ab_dd tk_cl_warmthBehind 50 rfl) rfl (by first | decide | omega) K_s_seasonOf T_s_seasonOf L_cl_96 rfl (Nat.le_of_ble_eq_true rfl) (c_s_seasonOf (seaC a) r (by omega) (by omega)) (fun v1 w1 h1 => ?_)
      obtain ⟨rfl, rfl⟩ := h1
      refine xn_icmp_ne 98 102 (ab_dd tk_cl_warmthBehind 51 rfl) rfl (by decide) (by omega) (by omega) (fun h95 => ?_) (fun h95 => ?_)
      · refine x_iconst 103 0 (ab_dd tk_cl_warmthBehind 54 rfl) rfl (by decide) (x_topn 0 rfl ?_)
        refine x_iadd 104 (ab_dd tk_cl_warmthBehind 55 rfl) rfl (x_topn ((if 1 ≤ qSe q r then (if mSea (rwS a) (qRi q (qSe q r - 1)) = mSea (rwS a) r then 1 else 0) else 0) + 0) (nI_add _ _) ?_)
        refine x_istore 106 [some (.ref x), some (.int (nI r)), some (.int (nI q)), some (.int (nI (qSe q r))), some (.int (nI ((if 1 ≤ qSe q r then 1 else 0) + 1))), some (.int (nI ((if 1 ≤ qSe q r then mWa w (qRi q (qSe q r - 1)) else 0) + (mWa w (qRi q (qSe q r + 1)))))), some (.int (nI ((if 1 ≤ qSe q r then (if mSea (rwS a) (qRi q (qSe q r - 1)) = mSea (rwS a) r then 1 else 0) else 0) + 0))), some (.int (nI (qSe q r + 1))), some (.int (nI (qRi q (qSe q r + 1))))] 6 (ab_dd tk_cl_warmthBehind 56 rfl) rfl (by decide) rfl ?_
        refine xn_iinc 109 7 (fun y => [some (.ref x), some (.int (nI r)), some (.int (nI q)), some (.int (nI (qSe q r))), some (.int (nI ((if 1 ≤ qSe q r then 1 else 0) + 1))), some (.int (nI ((if 1 ≤ qSe q r then mWa w (qRi q (qSe q r - 1)) else 0) + (mWa w (qRi q (qSe q r + 1)))))), some (.int (nI ((if 1 ≤ qSe q r then (if mSea (rwS a) (qRi q (qSe q r - 1)) = mSea (rwS a) r then 1 else 0) else 0) + 0))), some (.int y), some (.int (nI (qRi q (qSe q r + 1))))]) ((qSe q r + 1) + 2) (ab_dd tk_cl_warmthBehind 57 rfl) rfl (by decide) rfl (fun _ => rfl) (iinc_p 2) ?_
        refine x_goto 24 (ab_dd tk_cl_warmthBehind 58 rfl) (by decide) ?_
        refine x_iload 26 7 (ab_dd tk_cl_warmthBehind 16 rfl) rfl rfl ?_
        refine x_iload_n 27 3 (ab_dd tk_cl_warmthBehind 17 rfl) rfl rfl rfl ?_
        refine x_iconst 28 1 (ab_dd tk_cl_warmthBehind 18 rfl) rfl (by decide) (x_topn 1 rfl ?_)
        refine x_iadd 29 (ab_dd tk_cl_warmthBehind 19 rfl) rfl (x_topn ((qSe q r) + 1) (nI_add _ _) ?_)
        refine x_icmp_gt_t 112 (ab_dd tk_cl_warmthBehind 20 rfl) (by decide) ((nI_ltI (a := ((qSe q r) + 1)) (b := ((qSe q r + 1) + 2)) (by omega) (by omega)).mpr (show ((qSe q r) + 1) < ((qSe q r + 1) + 2) by omega)) ?_
        have e1 : ((if 1 ≤ qSe q r then 1 else 0) + 1) = (bsd (aR a) (qSe q r)) := by unfold bsd; rw [if_pos h46] <;> rfl
        have e2 : ((if 1 ≤ qSe q r then mWa w (qRi q (qSe q r - 1)) else 0) + (mWa w (qRi q (qSe q r + 1)))) = (nbH (aR a) w q r) := by unfold nbH; rw [if_pos h46] <;> rfl
        have e3 : ((if 1 ≤ qSe q r then (if mSea (rwS a) (qRi q (qSe q r - 1)) = mSea (rwS a) r then 1 else 0) else 0) + 0) = (nbS (mSea (rwS a)) (aR a) q r) := by unfold nbS; rw [if_pos h46, if_neg (fun z => h95 ((hd4 _ hot).mpr z))] <;> rfl
        rw [e1, e2, e3]
        exact after _ _
      · refine x_iconst 99 1 (ab_dd tk_cl_warmthBehind 52 rfl) rfl (by decide) (x_topn 1 rfl ?_)
        refine x_goto 103 (ab_dd tk_cl_warmthBehind 53 rfl) (by decide) ?_
        refine x_iadd 104 (ab_dd tk_cl_warmthBehind 55 rfl) rfl (x_topn ((if 1 ≤ qSe q r then (if mSea (rwS a) (qRi q (qSe q r - 1)) = mSea (rwS a) r then 1 else 0) else 0) + 1) (nI_add _ _) ?_)
        refine x_istore 106 [some (.ref x), some (.int (nI r)), some (.int (nI q)), some (.int (nI (qSe q r))), some (.int (nI ((if 1 ≤ qSe q r then 1 else 0) + 1))), some (.int (nI ((if 1 ≤ qSe q r then mWa w (qRi q (qSe q r - 1)) else 0) + (mWa w (qRi q (qSe q r + 1)))))), some (.int (nI ((if 1 ≤ qSe q r then (if mSea (rwS a) (qRi q (qSe q r - 1)) = mSea (rwS a) r then 1 else 0) else 0) + 1))), some (.int (nI (qSe q r + 1))), some (.int (nI (qRi q (qSe q r + 1))))] 6 (ab_dd tk_cl_warmthBehind 56 rfl) rfl (by decide) rfl ?_
        refine xn_iinc 109 7 (fun y => [some (.ref x), some (.int (nI r)), some (.int (nI q)), some (.int (nI (qSe q r))), some (.int (nI ((if 1 ≤ qSe q r then 1 else 0) + 1))), some (.int (nI ((if 1 ≤ qSe q r then mWa w (qRi q (qSe q r - 1)) else 0) + (mWa w (qRi q (qSe q r + 1)))))), some (.int (nI ((if 1 ≤ qSe q r then (if mSea (rwS a) (qRi q (qSe q r - 1)) = mSea (rwS a) r then 1 else 0) else 0) + 1))), some (.int y), some (.int (nI (qRi q (qSe q r + 1))))]) ((qSe q r + 1) + 2) (ab_dd tk_cl_warmthBehind 57 rfl) rfl (by decide) rfl (fun _ => rfl) (iinc_p 2) ?_
        refine x_goto 24 (ab_dd tk_cl_warmthBehind 58 rfl) (by decide) ?_
        refine x_iload 26 7 (ab_dd tk_cl_warmthBehind 16 rfl) rfl rfl ?_
        refine x_iload_n 27 3 (ab_dd tk_cl_warmthBehind 17 rfl) rfl rfl rfl ?_
        refine x_iconst 28 1 (ab_dd tk_cl_warmthBehind 18 rfl) rfl (by decide) (x_topn 1 rfl ?_)
        refine x_iadd 29 (ab_dd tk_cl_warmthBehind 19 rfl) rfl (x_topn ((qSe q r) + 1) (nI_add _ _) ?_)
        refine x_icmp_gt_t 112 (ab_dd tk_cl_warmthBehind 20 rfl) (by decide) ((nI_ltI (a := ((qSe q r) + 1)) (b := ((qSe q r + 1) + 2)) (by omega) (by omega)).mpr (show ((qSe q r) + 1) < ((qSe q r + 1) + 2) by omega)) ?_
        have e1 : ((if 1 ≤ qSe q r then 1 else 0) + 1) = (bsd (aR a) (qSe q r)) := by unfold bsd; rw [if_pos h46] <;> rfl
        have e2 : ((if 1 ≤ qSe q r then mWa w (qRi q (qSe q r - 1)) else 0) + (mWa w (qRi q (qSe q r + 1)))) = (nbH (aR a) w q r) := by unfold nbH; rw [if_pos h46] <;> rfl
        have e3 : ((if 1 ≤ qSe q r then (if mSea (rwS a) (qRi q (qSe q r - 1)) = mSea (rwS a) r then 1 else 0) else 0) + 1) = (nbS (mSea (rwS a)) (aR a) q r) := by unfold nbS; rw [if_pos h46, if_pos ((hd4 _ hot).mp h95)] <;> rfl
        rw [e1, e2, e3]
        exact after _ _
  have h50 : 50 ≤ sn S := Nat.le_trans (by decide) hx.1
  by_cases hs1 : 1 ≤ qSe q r
  · refine x_aload_n 1 0 (ab_dd tk_cl_warmthBehind 0 rfl) rfl rfl rfl ?_
    refine t_getP 4 78 (ab_dd tk_cl_warmthBehind 1 rfl) rfl F_cl_47 (by rcases hK.1 with z | z <;> omega) (Nat.lt_of_le_of_lt (Nat.le_add_right x 9) hK.2.1) hK.2.2.1 rfl hK.2.2.2.2.2.2.2.2.1 ?_
    refine x_iload_n 5 2 (ab_dd tk_cl_warmthBehind 2 rfl) rfl rfl rfl ?_
    refine x_iload_n 6 1 (ab_dd tk_cl_warmthBehind 3 rfl) rfl rfl rfl ?_
    refine t_callV 9 M_se_seatOf 0 2 [_, _] (ab_dd tk_cl_warmthBehind 4 rfl) rfl (by first | decide | omega) K_se_seatOf V_se_seatOf.1 V_se_seatOf.2 L_cl_93 rfl (Nat.le_of_ble_eq_true rfl) (by decide) (Nat.lt_of_lt_of_le (by decide) hx.1) (hx.2.1 28 (by decide)) rfl (c_se_seatOf (by exact hx) (by exact hse) q r (by omega) (by omega)) (fun v1 w1 h1 => ?_)
    obtain ⟨rfl, rfl⟩ := h1
    refine x_istore_n 10 [some (.ref x), some (.int (nI r)), some (.int (nI q)), some (.int (nI (qSe q r))), none, none, none, none, none] 3 (ab_dd tk_cl_warmthBehind 5 rfl) rfl rfl (by decide) rfl ?_
    refine x_iconst 11 0 (ab_dd tk_cl_warmthBehind 6 rfl) rfl (by decide) (x_topn 0 rfl ?_)
    refine x_istore 13 [some (.ref x), some (.int (nI r)), some (.int (nI q)), some (.int (nI (qSe q r))), some (.int (nI 0)), none, none, none, none] 4 (ab_dd tk_cl_warmthBehind 7 rfl) rfl (by decide) rfl ?_
    refine x_iconst 14 0 (ab_dd tk_cl_warmthBehind 8 rfl) rfl (by decide) (x_topn 0 rfl ?_)
    refine x_istore 16 [some (.ref x), some (.int (nI r)), some (.int (nI q)), some (.int (nI (qSe q r))), some (.int (nI 0)), some (.int (nI 0)), none, none, none] 5 (ab_dd tk_cl_warmthBehind 9 rfl) rfl (by decide) rfl ?_
    refine x_iconst 17 0 (ab_dd tk_cl_warmthBehind 10 rfl) rfl (by decide) (x_topn 0 rfl ?_)
    refine x_istore 19 [some (.ref x), some (.int (nI r)), some (.int (nI q)), some (.int (nI (qSe q r))), some (.int (nI 0)), some (.int (nI 0)), some (.int (nI 0)), none, none] 6 (ab_dd tk_cl_warmthBehind 11 rfl) rfl (by decide) rfl ?_
    refine x_iload_n 20 3 (ab_dd tk_cl_warmthBehind 12 rfl) rfl rfl rfl ?_
    refine x_iconst 21 1 (ab_dd tk_cl_warmthBehind 13 rfl) rfl (by decide) (x_topn 1 rfl ?_)
    refine x_isub 22 (ab_dd tk_cl_warmthBehind 14 rfl) rfl (x_topn ((qSe q r) - 1) (pk_sub (by omega)) ?_)
    refine x_istore 24 [some (.ref x), some (.int (nI r)), some (.int (nI q)), some (.int (nI (qSe q r))), some (.int (nI 0)), some (.int (nI 0)), some (.int (nI 0)), some (.int (nI ((qSe q r) - 1))), none] 7 (ab_dd tk_cl_warmthBehind 15 rfl) rfl (by decide) rfl ?_
    refine x_iload 26 7 (ab_dd tk_cl_warmthBehind 16 rfl) rfl rfl ?_
    refine x_iload_n 27 3 (ab_dd tk_cl_warmthBehind 17 rfl) rfl rfl rfl ?_
    refine x_iconst 28 1 (ab_dd tk_cl_warmthBehind 18 rfl) rfl (by decide) (x_topn 1 rfl ?_)
    refine x_iadd 29 (ab_dd tk_cl_warmthBehind 19 rfl) rfl (x_topn ((qSe q r) + 1) (nI_add _ _) ?_)
    refine x_icmp_gt_f 32 (ab_dd tk_cl_warmthBehind 20 rfl) rfl 112 (by decide) (fun z => absurd ((nI_ltI (a := ((qSe q r) + 1)) (b := ((qSe q r) - 1)) (by omega) (by omega)).mp z) (show ¬ (((qSe q r) + 1) < ((qSe q r) - 1)) by omega)) ?_
    refine x_iload 34 7 (ab_dd tk_cl_warmthBehind 21 rfl) rfl rfl ?_
    refine xn_if_lt 37 106 (ab_dd tk_cl_warmthBehind 22 rfl) rfl (by decide) (by omega) ?_
    refine x_iload 39 7 (ab_dd tk_cl_warmthBehind 23 rfl) rfl rfl ?_
    refine x_aload_n 40 0 (ab_dd tk_cl_warmthBehind 24 rfl) rfl rfl rfl ?_
    refine t_getP 43 c (ab_dd tk_cl_warmthBehind 25 rfl) rfl F_cl_12 (by rcases hK.1 with z | z <;> omega) (Nat.lt_of_le_of_lt (Nat.le_add_right x 9) hK.2.1) hK.2.2.1 rfl a2 ?_
    refine t_getI 46 (ab_dd tk_cl_warmthBehind 26 rfl) rfl F_cl_60 hk.1 (Nat.lt_of_le_of_lt (Nat.le_add_right c 2) hk.2.1) hk.2.2.1 rfl (x_topn (aR a) c1 ?_)
    refine x_icmp_ge_f 49 (ab_dd tk_cl_warmthBehind 27 rfl) rfl 106 (by decide) (fun z => absurd ((nI_leI (a := (aR a)) (b := ((qSe q r) - 1)) (by omega) (by omega)).mp z) (show ¬ ((aR a) ≤ ((qSe q r) - 1)) by omega)) ?_
    have hot : qRi q (qSe q r - 1) < aR a := (hB.2.2.2.2.1 (qSe q r - 1) (by omega)).2.1
    have hwo := mWa_lt w (qRi q (qSe q r - 1))
    have hd1 := d4_lt (seaC a) (qRi q (qSe q r - 1))
    have hd2 := d4_lt (seaC a) r
    refine x_aload_n 50 0 (ab_dd tk_cl_warmthBehind 28 rfl) rfl rfl rfl ?_
    refine t_getP 53 78 (ab_dd tk_cl_warmthBehind 29 rfl) rfl F_cl_47 (by rcases hK.1 with z | z <;> omega) (Nat.lt_of_le_of_lt (Nat.le_add_right x 9) hK.2.1) hK.2.2.1 rfl hK.2.2.2.2.2.2.2.2.1 ?_
    refine x_iload_n 54 2 (ab_dd tk_cl_warmthBehind 30 rfl) rfl rfl rfl ?_
    refine x_iload 56 7 (ab_dd tk_cl_warmthBehind 31 rfl) rfl rfl ?_
    refine t_callV 59 M_se_riderIn 0 2 [_, _] (ab_dd tk_cl_warmthBehind 32 rfl) rfl (by first | decide | omega) K_se_riderIn V_se_riderIn.1 V_se_riderIn.2 L_cl_69 rfl (Nat.le_of_ble_eq_true rfl) (by decide) (Nat.lt_of_lt_of_le (by decide) hx.1) (hx.2.1 28 (by decide)) rfl (c_se_riderIn (by exact hx) (by exact hse) q ((qSe q r) - 1) (by omega) (by omega)) (fun v1 w1 h1 => ?_)
    obtain ⟨rfl, rfl⟩ := h1
    refine x_istore 61 [some (.ref x), some (.int (nI r)), some (.int (nI q)), some (.int (nI (qSe q r))), some (.int (nI 0)), some (.int (nI 0)), some (.int (nI 0)), some (.int (nI ((qSe q r) - 1))), some (.int (nI (qRi q ((qSe q r) - 1))))] 8 (ab_dd tk_cl_warmthBehind 33 rfl) rfl (by decide) rfl ?_
    refine xn_iinc 64 4 (fun y => [some (.ref x), some (.int (nI r)), some (.int (nI q)), some (.int (nI (qSe q r))), some (.int y), some (.int (nI 0)), some (.int (nI 0)), some (.int (nI ((qSe q r) - 1))), some (.int (nI (qRi q ((qSe q r) - 1))))]) (0 + 1) (ab_dd tk_cl_warmthBehind 34 rfl) rfl (by decide) rfl (fun _ => rfl) (iinc_p 1) ?_
    refine x_iload 66 5 (ab_dd tk_cl_warmthBehind 35 rfl) rfl rfl ?_
    refine x_aload_n 67 0 (ab_dd tk_cl_warmthBehind 36 rfl) rfl rfl rfl ?_
    refine t_getP 70 (x + 7) (ab_dd tk_cl_warmthBehind 37 rfl) rfl F_cl_38 (by rcases hK.1 with z | z <;> omega) (Nat.lt_of_le_of_lt (Nat.le_add_right x 9) hK.2.1) hK.2.2.1 rfl hK.2.2.2.2.2.2.2.2.2.2.2.1 ?_
    refine x_iload 72 8 (ab_dd tk_cl_warmthBehind 38 rfl) rfl rfl ?_
    refine t_iald 73 (qRi q ((qSe q r) - 1)) (ab_dd tk_cl_warmthBehind 39 rfl) rfl (by rcases hK.1 with z | z <;> omega) (Nat.lt_of_le_of_lt (Nat.add_le_add_left (by decide) x) hK.2.1) hK.2.2.2.2.2.1 rfl (by omega) (by decide) (x_topn (mWa w (qRi q ((qSe q r) - 1))) (hah (qRi q ((qSe q r) - 1)) (by omega)) ?_)
    refine x_iadd 74 (ab_dd tk_cl_warmthBehind 40 rfl) rfl (x_topn (0 + (mWa w (qRi q ((qSe q r) - 1)))) (nI_add _ _) ?_)
    refine x_istore 76 [some (.ref x), some (.int (nI r)), some (.int (nI q)), some (.int (nI (qSe q r))), some (.int (nI (0 + 1))), some (.int (nI (0 + (mWa w (qRi q ((qSe q r) - 1)))))), some (.int (nI 0)), some (.int (nI ((qSe q r) - 1))), some (.int (nI (qRi q ((qSe q r) - 1))))] 5 (ab_dd tk_cl_warmthBehind 41 rfl) rfl (by decide) rfl ?_
    refine x_iload 78 6 (ab_dd tk_cl_warmthBehind 42 rfl) rfl rfl ?_
    refine x_aload_n 79 0 (ab_dd tk_cl_warmthBehind 43 rfl) rfl rfl rfl ?_
    refine t_getI 82 (ab_dd tk_cl_warmthBehind 44 rfl) rfl F_cl_18 (by rcases hK.1 with z | z <;> omega) (Nat.lt_of_le_of_lt (Nat.le_add_right x 9) hK.2.1) hK.2.2.1 rfl (x_topn (seaC a) a3 ?_)
    refine x_iload 84 8 (ab_dd tk_cl_warmthBehind 45 rfl) rfl rfl ?_
    refine x_callS 87 M_s_seasonOf 0 2 [_, _] (ab_dd tk_cl_warmthBehind 46 rfl) rfl (by first | decide | omega) K_s_seasonOf T_s_seasonOf L_cl_96 rfl (Nat.le_of_ble_eq_true rfl) (c_s_seasonOf (seaC a) (qRi q ((qSe q r) - 1)) (by omega) (by omega)) (fun v1 w1 h1 => ?_)
    obtain ⟨rfl, rfl⟩ := h1
    refine x_aload_n 88 0 (ab_dd tk_cl_warmthBehind 47 rfl) rfl rfl rfl ?_
    refine t_getI 91 (ab_dd tk_cl_warmthBehind 48 rfl) rfl F_cl_18 (by rcases hK.1 with z | z <;> omega) (Nat.lt_of_le_of_lt (Nat.le_add_right x 9) hK.2.1) hK.2.2.1 rfl (x_topn (seaC a) a3 ?_)
    refine x_iload_n 92 1 (ab_dd tk_cl_warmthBehind 49 rfl) rfl rfl rfl ?_
    refine x_callS 95 M_s_seasonOf 0 2 [_, _] (ab_dd tk_cl_warmthBehind 50 rfl) rfl (by first | decide | omega) K_s_seasonOf T_s_seasonOf L_cl_96 rfl (Nat.le_of_ble_eq_true rfl) (c_s_seasonOf (seaC a) r (by omega) (by omega)) (fun v1 w1 h1 => ?_)
    obtain ⟨rfl, rfl⟩ := h1
    refine xn_icmp_ne 98 102 (ab_dd tk_cl_warmthBehind 51 rfl) rfl (by decide) (by omega) (by omega) (fun h95 => ?_) (fun h95 => ?_)
    · refine x_iconst 103 0 (ab_dd tk_cl_warmthBehind 54 rfl) rfl (by decide) (x_topn 0 rfl ?_)
      refine x_iadd 104 (ab_dd tk_cl_warmthBehind 55 rfl) rfl (x_topn (0 + 0) (nI_add _ _) ?_)
      refine x_istore 106 [some (.ref x), some (.int (nI r)), some (.int (nI q)), some (.int (nI (qSe q r))), some (.int (nI (0 + 1))), some (.int (nI (0 + (mWa w (qRi q ((qSe q r) - 1)))))), some (.int (nI (0 + 0))), some (.int (nI ((qSe q r) - 1))), some (.int (nI (qRi q ((qSe q r) - 1))))] 6 (ab_dd tk_cl_warmthBehind 56 rfl) rfl (by decide) rfl ?_
      refine xn_iinc 109 7 (fun y => [some (.ref x), some (.int (nI r)), some (.int (nI q)), some (.int (nI (qSe q r))), some (.int (nI (0 + 1))), some (.int (nI (0 + (mWa w (qRi q ((qSe q r) - 1)))))), some (.int (nI (0 + 0))), some (.int y), some (.int (nI (qRi q ((qSe q r) - 1))))]) (((qSe q r) - 1) + 2) (ab_dd tk_cl_warmthBehind 57 rfl) rfl (by decide) rfl (fun _ => rfl) (iinc_p 2) ?_
      refine x_goto 24 (ab_dd tk_cl_warmthBehind 58 rfl) (by decide) ?_
      have e1 : (0 + 1) = (if 1 ≤ qSe q r then 1 else 0) := by rw [if_pos hs1]
      have e2 : (0 + (mWa w (qRi q ((qSe q r) - 1)))) = (if 1 ≤ qSe q r then mWa w (qRi q (qSe q r - 1)) else 0) := by rw [if_pos hs1]; omega
      have e3 : (0 + 0) = (if 1 ≤ qSe q r then (if mSea (rwS a) (qRi q (qSe q r - 1)) = mSea (rwS a) r then 1 else 0) else 0) := by rw [if_pos hs1, if_neg (fun z => h95 ((hd4 _ hot).mpr z))]
      have e4 : (((qSe q r) - 1) + 2) = qSe q r + 1 := by omega
      have h := sec (some (.int (nI (qRi q ((qSe q r) - 1)))))
      rw [← e1, ← e2, ← e3, ← e4] at h
      exact h
    · refine x_iconst 99 1 (ab_dd tk_cl_warmthBehind 52 rfl) rfl (by decide) (x_topn 1 rfl ?_)
      refine x_goto 103 (ab_dd tk_cl_warmthBehind 53 rfl) (by decide) ?_
      refine x_iadd 104 (ab_dd tk_cl_warmthBehind 55 rfl) rfl (x_topn (0 + 1) (nI_add _ _) ?_)
      refine x_istore 106 [some (.ref x), some (.int (nI r)), some (.int (nI q)), some (.int (nI (qSe q r))), some (.int (nI (0 + 1))), some (.int (nI (0 + (mWa w (qRi q ((qSe q r) - 1)))))), some (.int (nI (0 + 1))), some (.int (nI ((qSe q r) - 1))), some (.int (nI (qRi q ((qSe q r) - 1))))] 6 (ab_dd tk_cl_warmthBehind 56 rfl) rfl (by decide) rfl ?_
      refine xn_iinc 109 7 (fun y => [some (.ref x), some (.int (nI r)), some (.int (nI q)), some (.int (nI (qSe q r))), some (.int (nI (0 + 1))), some (.int (nI (0 + (mWa w (qRi q ((qSe q r) - 1)))))), some (.int (nI (0 + 1))), some (.int y), some (.int (nI (qRi q ((qSe q r) - 1))))]) (((qSe q r) - 1) + 2) (ab_dd tk_cl_warmthBehind 57 rfl) rfl (by decide) rfl (fun _ => rfl) (iinc_p 2) ?_
      refine x_goto 24 (ab_dd tk_cl_warmthBehind 58 rfl) (by decide) ?_
      have e1 : (0 + 1) = (if 1 ≤ qSe q r then 1 else 0) := by rw [if_pos hs1]
      have e2 : (0 + (mWa w (qRi q ((qSe q r) - 1)))) = (if 1 ≤ qSe q r then mWa w (qRi q (qSe q r - 1)) else 0) := by rw [if_pos hs1]; omega
      have e3 : (0 + 1) = (if 1 ≤ qSe q r then (if mSea (rwS a) (qRi q (qSe q r - 1)) = mSea (rwS a) r then 1 else 0) else 0) := by rw [if_pos hs1, if_pos ((hd4 _ hot).mp h95)]
      have e4 : (((qSe q r) - 1) + 2) = qSe q r + 1 := by omega
      have h := sec (some (.int (nI (qRi q ((qSe q r) - 1)))))
      rw [← e1, ← e2, ← e3, ← e4] at h
      exact h
  · have hs0 : qSe q r = 0 := by omega
    refine x_aload_n 1 0 (ab_dd tk_cl_warmthBehind 0 rfl) rfl rfl rfl ?_
    refine t_getP 4 78 (ab_dd tk_cl_warmthBehind 1 rfl) rfl F_cl_47 (by rcases hK.1 with z | z <;> omega) (Nat.lt_of_le_of_lt (Nat.le_add_right x 9) hK.2.1) hK.2.2.1 rfl hK.2.2.2.2.2.2.2.2.1 ?_
    refine x_iload_n 5 2 (ab_dd tk_cl_warmthBehind 2 rfl) rfl rfl rfl ?_
    refine x_iload_n 6 1 (ab_dd tk_cl_warmthBehind 3 rfl) rfl rfl rfl ?_
    refine t_callV 9 M_se_seatOf 0 2 [_, _] (ab_dd tk_cl_warmthBehind 4 rfl) rfl (by first | decide | omega) K_se_seatOf V_se_seatOf.1 V_se_seatOf.2 L_cl_93 rfl (Nat.le_of_ble_eq_true rfl) (by decide) (Nat.lt_of_lt_of_le (by decide) hx.1) (hx.2.1 28 (by decide)) rfl (c_se_seatOf (by exact hx) (by exact hse) q r (by omega) (by omega)) (fun v1 w1 h1 => ?_)
    obtain ⟨rfl, rfl⟩ := h1
    refine x_istore_n 10 [some (.ref x), some (.int (nI r)), some (.int (nI q)), some (.int (nI (qSe q r))), none, none, none, none, none] 3 (ab_dd tk_cl_warmthBehind 5 rfl) rfl rfl (by decide) rfl ?_
    refine x_iconst 11 0 (ab_dd tk_cl_warmthBehind 6 rfl) rfl (by decide) (x_topn 0 rfl ?_)
    refine x_istore 13 [some (.ref x), some (.int (nI r)), some (.int (nI q)), some (.int (nI (qSe q r))), some (.int (nI 0)), none, none, none, none] 4 (ab_dd tk_cl_warmthBehind 7 rfl) rfl (by decide) rfl ?_
    refine x_iconst 14 0 (ab_dd tk_cl_warmthBehind 8 rfl) rfl (by decide) (x_topn 0 rfl ?_)
    refine x_istore 16 [some (.ref x), some (.int (nI r)), some (.int (nI q)), some (.int (nI (qSe q r))), some (.int (nI 0)), some (.int (nI 0)), none, none, none] 5 (ab_dd tk_cl_warmthBehind 9 rfl) rfl (by decide) rfl ?_
    refine x_iconst 17 0 (ab_dd tk_cl_warmthBehind 10 rfl) rfl (by decide) (x_topn 0 rfl ?_)
    refine x_istore 19 [some (.ref x), some (.int (nI r)), some (.int (nI q)), some (.int (nI (qSe q r))), some (.int (nI 0)), some (.int (nI 0)), some (.int (nI 0)), none, none] 6 (ab_dd tk_cl_warmthBehind 11 rfl) rfl (by decide) rfl ?_
    refine x_iload_n 20 3 (ab_dd tk_cl_warmthBehind 12 rfl) rfl rfl rfl ?_
    refine x_iconst 21 1 (ab_dd tk_cl_warmthBehind 13 rfl) rfl (by decide) (x_topn 1 rfl ?_)
    refine x_isub 22 (ab_dd tk_cl_warmthBehind 14 rfl) rfl (x_topx (-1 : Int32) (by rw [hs0]; decide) ?_)
    refine x_istore 24 [some (.ref x), some (.int (nI r)), some (.int (nI q)), some (.int (nI (qSe q r))), some (.int (nI 0)), some (.int (nI 0)), some (.int (nI 0)), some (.int ((-1 : Int32))), none] 7 (ab_dd tk_cl_warmthBehind 15 rfl) rfl (by decide) rfl ?_
    refine x_iload 26 7 (ab_dd tk_cl_warmthBehind 16 rfl) rfl rfl ?_
    refine x_iload_n 27 3 (ab_dd tk_cl_warmthBehind 17 rfl) rfl rfl rfl ?_
    refine x_iconst 28 1 (ab_dd tk_cl_warmthBehind 18 rfl) rfl (by decide) (x_topn 1 rfl ?_)
    refine x_iadd 29 (ab_dd tk_cl_warmthBehind 19 rfl) rfl (x_topn ((qSe q r) + 1) (nI_add _ _) ?_)
    refine x_icmp_gt_f 32 (ab_dd tk_cl_warmthBehind 20 rfl) rfl 112 (by decide) (by rw [hs0]; decide) ?_
    refine x_iload 34 7 (ab_dd tk_cl_warmthBehind 21 rfl) rfl rfl ?_
    refine x_if_lt_t 106 (ab_dd tk_cl_warmthBehind 22 rfl) (by decide) (by decide) ?_
    refine x_iincN 109 7 2 (fun y => [some (.ref x), some (.int (nI r)), some (.int (nI q)), some (.int (nI (qSe q r))), some (.int (nI 0)), some (.int (nI 0)), some (.int (nI 0)), some (.int y), none]) (ab_dd tk_cl_warmthBehind 57 rfl) rfl (by decide) rfl (by decide) (fun _ => rfl) (fun v1 ev1 => ?_)
    refine x_goto 24 (ab_dd tk_cl_warmthBehind 58 rfl) (by decide) ?_
    have e4 : v1 = nI (qSe q r + 1) := by rw [ev1, hs0]; decide
    have e1 : (if 1 ≤ qSe q r then 1 else 0) = 0 := if_neg hs1
    have e2 : (if 1 ≤ qSe q r then mWa w (qRi q (qSe q r - 1)) else 0) = 0 := if_neg hs1
    have e3 : (if 1 ≤ qSe q r then (if mSea (rwS a) (qRi q (qSe q r - 1)) = mSea (rwS a) r then 1 else 0) else 0) = 0 := if_neg hs1
    have h := sec none
    rw [e1, e2, e3] at h
    rw [e4]
    exact h
