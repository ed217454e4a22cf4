/-! ===== the class's reader: a rider ===== -/
def rdQ (S : ab_S) (tp : Nat → Nat) (n c : Nat) (r : lR) (v : Option Value) (w' : ab_H) : Prop := v = none ∧ ∃ S', w' = sw S' ∧ tF c S S' ∧ (match r with
  | .inl e => tD S' n e c
  | .inr y => ∃ r1, tL S' tp n y.1 c y.2 r1 r1)
def tb_re_readRider : List (Nat × Instr × Nat) := [(0, .aload_n 0, 1), (1, .getfield 40, 3), (4, .getfield 118, 3), (7, .iconst 4, 1), (8, .if_icmp .lt 9, 3), (11, .aload_n 0, 1), (12, .iconst 4, 1), (13, .invokevirtual 114, 3), (16, .return_, 1), (17, .aload_n 0, 1), (18, .getfield 40, 3), (21, .getfield 118, 3), (24, .istore_n 1, 1), (25, .aload_n 0, 1), (26, .getfield 40, 3), (29, .dup, 1), (30, .getfield 118, 3), (33, .iconst 1, 1), (34, .iadd, 1), (35, .putfield 118, 3), (38, .aload_n 0, 1), (39, .invokevirtual 64, 3), (42, .aload_n 0, 1), (43, .ldc 121, 2), (45, .invokevirtual 69, 3), (48, .aload_n 0, 1), (49, .getfield 40, 3), (52, .aload_n 0, 1), (53, .getfield 40, 3), (56, .getfield 123, 3), (59, .iload_n 1, 1), (60, .aload_n 0, 1), (61, .iconst 3, 1), (62, .invokevirtual 75, 3), (65, .invokestatic 126, 3), (68, .putfield 123, 3), (71, .aload_n 0, 1), (72, .ldc 130, 2), (74, .invokevirtual 69, 3), (77, .aload_n 0, 1), (78, .getfield 40, 3), (81, .getfield 132, 3), (84, .iload_n 1, 1), (85, .aload_n 0, 1), (86, .bipush 9, 2), (88, .invokevirtual 75, 3), (91, .iastore, 1), (92, .aload_n 0, 1), (93, .getfield 40, 3), (96, .aload_n 0, 1), (97, .getfield 40, 3), (100, .getfield 135, 3), (103, .iload_n 1, 1), (104, .iconst 2, 1), (105, .invokestatic 138, 3), (108, .putfield 135, 3), (111, .iconst 0, 1), (112, .istore_n 2, 1), (113, .iload_n 2, 1), (114, .sipush 900, 3), (117, .if_icmp .ge 104, 3), (120, .aload_n 0, 1), (121, .ldc 141, 2), (123, .invokevirtual 93, 3), (126, .ifCond .ne 12, 3), (129, .aload_n 0, 1), (130, .ldc 142, 2), (132, .invokevirtual 93, 3), (135, .ifCond .eq 86, 3), (138, .aload_n 0, 1), (139, .ldc 141, 2), (141, .invokevirtual 93, 3), (144, .istore_n 3, 1), (145, .aload_n 0, 1), (146, .invokevirtual 64, 3), (149, .iload_n 3, 1), (150, .ifCond .eq 26, 3), (153, .aload_n 0, 1), (154, .getfield 40, 3), (157, .aload_n 0, 1), (158, .getfield 40, 3), (161, .getfield 135, 3), (164, .iload_n 1, 1), (165, .aload_n 0, 1), (166, .iconst 4, 1), (167, .invokevirtual 75, 3), (170, .invokestatic 138, 3), (173, .putfield 135, 3), (176, .iconst 0, 1), (177, .istore 4, 2), (179, .iload 4, 2), (181, .iconst 4, 1), (182, .if_icmp .ge 33, 3), (185, .iload_n 3, 1), (186, .ifCond .ne 29, 3), (189, .aload_n 0, 1), (190, .getfield 40, 3), (193, .getfield 144, 3), (196, .iload_n 1, 1), (197, .iconst 4, 1), (198, .imul, 1), (199, .iload 4, 2), (201, .iadd, 1), (202, .aload_n 0, 1), (203, .bipush 9, 2), (205, .invokevirtual 75, 3), (208, .iastore, 1), (209, .iinc 4 1, 3), (212, .goto (-33), 3), (215, .iinc 2 1, 3), (218, .goto (-105), 3), (221, .return_, 1)]
theorem tk_re_readRider : ∀ q ∈ tb_re_readRider, decode M_re_readRider.2.1 q.1 = .ok q.2 := by decide +kernel
theorem LA_readRider {G : ab_G} {S : ab_S} {tp : Nat → Nat} {n p c r : Nat} {F : Nat → Int32} (uT0 : tL S tp n p c F r r) (hk2 : tK tp n p = 2) : ab_C G 7 M_re_readRider [.ref 72] (sw S) (rdQ S tp n c (rdr tp n p F)) := by
  refine x_enter [some (.ref 72), none, none, none, none] (by decide) (Nat.le_of_ble_eq_true rfl) rfl (fun v w' h => by obtain ⟨rfl, -⟩ := h; trivial) ?_
  have hc145 := uT0.2.2.1.1
  have hn9 := uT0.1.2.2.2.1
  have hr4 := uT0.2.2.2.1.2.2.2.2.2.2.2.1
  have hF1 := uT0.2.2.2.1.2.2.2.2.2.2.1
  have hcF : cN (F 1) = r := by rw [hF1, cN_nI (by omega)]
  have uF0 : tF c S S := tF.rf
  obtain ⟨U0, hU0⟩ : ∃ U0, U0 = S := ⟨_, rfl⟩
  have dlp : ∀ (U1 : ab_S) (e : Nat × Nat) (i : Nat) (y3 y4 : Option Value), i < 2 ^ 30 → tF c S U1 → tD U1 n e c → rdr tp n p F = .inl e → ab_Ex G 7 M_re_readRider 113 [some (.ref 72), some (.int (nI r)), some (.int (nI i)), y3, y4] [] (sw U1) (rdQ S tp n c (rdr tp n p F)) := by
    intro U1 e i y3 y4 hi uF1 uT1 hsp
    refine x_forget 3 (x_forget 4 ?_)
    obtain ⟨rr1, hr1⟩ := uT1.2.2.2.1
    obtain ⟨ss1, hs1⟩ := uT1.2.2.2.2.1
    obtain ⟨ww1, hw1⟩ := uT1.2.2.2.2.2
    refine x_iload_n 114 2 (ab_dd tk_re_readRider 58 rfl) rfl rfl rfl ?_
    refine x_sipush 117 900 (ab_dd tk_re_readRider 59 rfl) rfl (by decide) (x_topn 900 rfl ?_)
    refine xn_icmp_ge 120 221 (ab_dd tk_re_readRider 60 rfl) rfl (by decide) (by omega) (by omega) (fun h117 => ?_) (fun h117 => ?_)
    · exact x_vret (ab_dd tk_re_readRider 111 rfl) ⟨rfl, U1, rfl, uF1, by rw [hsp]; exact uT1⟩
    · refine x_aload_n 121 0 (ab_dd tk_re_readRider 61 rfl) rfl rfl rfl ?_
      refine x_ldcS 123 6 (ab_dd tk_re_readRider 62 rfl) rfl (by decide) (List.mem_of_getElem? (i := 6) rfl) ?_
      refine t_callV 126 M_re_isWord 4 1 [_] (ab_dd tk_re_readRider 63 rfl) rfl (by first | decide | omega) K_re_isWord V_re_isWord.1 V_re_isWord.2 L_re_93 rfl (Nat.le_of_ble_eq_true rfl) (by decide) (Nat.lt_of_lt_of_le (by decide) uT1.1.1.1) (uT1.1.1.2.1 22 (by decide)) rfl (DA_isWord uT1.1 _) (fun v1 w1 h1 => ?_)
      obtain ⟨rfl, rfl⟩ := h1
      refine x_if_ne_f 129 (ab_dd tk_re_readRider 64 rfl) rfl 138 (by decide) (by decide) ?_
      refine x_aload_n 130 0 (ab_dd tk_re_readRider 65 rfl) rfl rfl rfl ?_
      refine x_ldcS 132 7 (ab_dd tk_re_readRider 66 rfl) rfl (by decide) (List.mem_of_getElem? (i := 7) rfl) ?_
      refine t_callV 135 M_re_isWord 4 1 [_] (ab_dd tk_re_readRider 67 rfl) rfl (by first | decide | omega) K_re_isWord V_re_isWord.1 V_re_isWord.2 L_re_93 rfl (Nat.le_of_ble_eq_true rfl) (by decide) (Nat.lt_of_lt_of_le (by decide) uT1.1.1.1) (uT1.1.1.2.1 22 (by decide)) rfl (DA_isWord uT1.1 _) (fun v1 w1 h1 => ?_)
      obtain ⟨rfl, rfl⟩ := h1
      refine x_if_eq_t 221 (ab_dd tk_re_readRider 68 rfl) (by decide) (by decide) ?_
      exact x_vret (ab_dd tk_re_readRider 111 rfl) ⟨rfl, U1, rfl, uF1, by rw [hsp]; exact uT1⟩
  have dlk : ∀ (m k : Nat), k + m = 4 → ∀ (U1 : ab_S) (e : Nat × Nat) (i : Nat), r < 4 → i < 2 ^ 29 → tF c S U1 → tD U1 n e c → rdr tp n p F = .inl e → ab_Ex G 7 M_re_readRider 179 [some (.ref 72), some (.int (nI r)), some (.int (nI i)), some (.int (nI 0)), some (.int (nI k))] [] (sw U1) (rdQ S tp n c (rdr tp n p F)) := by
    intro m
    induction m with
    | zero =>
      intro k hk U1 e i hr hi uF1 uT1 hsp
      refine x_iload 181 4 (ab_dd tk_re_readRider 90 rfl) rfl rfl ?_
      refine x_iconst 182 4 (ab_dd tk_re_readRider 91 rfl) rfl (by decide) (x_topn 4 rfl ?_)
      refine x_icmp_ge_t 215 (ab_dd tk_re_readRider 92 rfl) (by decide) ((nI_leI (a := 4) (b := k) (by omega) (by omega)).mpr (show 4 ≤ k by omega)) ?_
      refine xn_iinc 218 2 (fun y => [some (.ref 72), some (.int (nI r)), some (.int y), some (.int (nI 0)), some (.int (nI k))]) (i + 1) (ab_dd tk_re_readRider 109 rfl) rfl (by decide) rfl (fun _ => rfl) (iinc_p 1) ?_
      refine x_goto 113 (ab_dd tk_re_readRider 110 rfl) (by decide) ?_
      exact dlp U1 e (i + 1) _ _ (by omega) uF1 uT1 hsp
    | succ m ih =>
      intro k hk U1 e i hr hi uF1 uT1 hsp
      obtain ⟨rr1, hr1⟩ := uT1.2.2.2.1
      obtain ⟨ss1, hs1⟩ := uT1.2.2.2.2.1
      obtain ⟨ww1, hw1⟩ := uT1.2.2.2.2.2
      refine x_iload 181 4 (ab_dd tk_re_readRider 90 rfl) rfl rfl ?_
      refine x_iconst 182 4 (ab_dd tk_re_readRider 91 rfl) rfl (by decide) (x_topn 4 rfl ?_)
      refine x_icmp_ge_f 185 (ab_dd tk_re_readRider 92 rfl) rfl 215 (by decide) (fun z => absurd ((nI_leI (a := 4) (b := k) (by omega) (by omega)).mp z) (show ¬ (4 ≤ k) by omega)) ?_
      refine x_iload_n 186 3 (ab_dd tk_re_readRider 93 rfl) rfl rfl rfl ?_
      refine x_if_ne_f 189 (ab_dd tk_re_readRider 94 rfl) rfl 215 (by decide) ((nI_eq (a := 0) (b := 0) (by omega) (by omega)).mpr (show 0 = 0 by rfl)) ?_
      refine x_aload_n 190 0 (ab_dd tk_re_readRider 95 rfl) rfl rfl rfl ?_
      refine t_getP 193 c (ab_dd tk_re_readRider 96 rfl) rfl F_re_40 (by decide) (Nat.lt_of_lt_of_le (by decide) uT1.1.1.1) (uT1.1.1.2.1 22 (by decide)) rfl uT1.2.1 ?_
      refine t_getP 196 (c + 2) (ab_dd tk_re_readRider 97 rfl) rfl F_re_144 (by omega) (Nat.lt_of_le_of_lt (Nat.le_add_right c 2) uT1.2.2.1.2.1) uT1.2.2.1.2.2.1 rfl uT1.2.2.1.2.2.2.2.2.2 ?_
      refine x_iload_n 197 1 (ab_dd tk_re_readRider 98 rfl) rfl rfl rfl ?_
      refine x_iconst 198 4 (ab_dd tk_re_readRider 99 rfl) rfl (by decide) (x_topn 4 rfl ?_)
      refine x_imul 199 (ab_dd tk_re_readRider 100 rfl) rfl (x_topn (r * 4) (pk_mul _ _) ?_)
      refine x_iload 201 4 (ab_dd tk_re_readRider 101 rfl) rfl rfl ?_
      refine x_iadd 202 (ab_dd tk_re_readRider 102 rfl) rfl (x_topn ((r * 4) + k) (nI_add _ _) ?_)
      refine x_aload_n 203 0 (ab_dd tk_re_readRider 103 rfl) rfl rfl rfl ?_
      refine x_bipush 205 9 (ab_dd tk_re_readRider 104 rfl) rfl (by decide) (x_topn 9 rfl ?_)
      refine t_callV 208 M_re_needNumber 6 1 [_] (ab_dd tk_re_readRider 105 rfl) rfl (by first | decide | omega) K_re_needNumber V_re_needNumber.1 V_re_needNumber.2 L_re_75 rfl (Nat.le_of_ble_eq_true rfl) (by decide) (Nat.lt_of_lt_of_le (by decide) uT1.1.1.1) (uT1.1.1.2.1 22 (by decide)) rfl (DA_needNumber uT1.1 _) (fun v1 w1 h1 => ?_)
      obtain ⟨rfl, U2, rfl, uG2, uD2⟩ := h1
      have uT2 : tD U2 n e c := uT1.g uG2 uD2
      have uF2 : tF c S U2 := uF1.tr (tF.g uG2)
      obtain ⟨rr2, hr2⟩ := uT2.2.2.2.1
      obtain ⟨ss2, hs2⟩ := uT2.2.2.2.2.1
      obtain ⟨ww2, hw2⟩ := uT2.2.2.2.2.2
      refine t_iast 209 ((r * 4) + k) (ab_dd tk_re_readRider 106 rfl) rfl (by omega) uT2.2.2.1.2.1 uT2.2.2.1.2.2.2.2.1 rfl (by omega) (by decide) ?_
      obtain ⟨U3, hU3⟩ : ∃ U3, U3 = pI U2 (c + 2) (r * 4 + k) (nI 0) := ⟨_, rfl⟩
      rw [← hU3]
      have uF3 : tF c S U3 := uF2.tr (by rw [hU3]; exact tF.p (by omega) (by omega))
      have uT3 : tD U3 n e c := by rw [hU3]; exact uT2.put (by omega) (fun z => absurd z (by omega))
      obtain ⟨rr3, hr3⟩ := uT3.2.2.2.1
      obtain ⟨ss3, hs3⟩ := uT3.2.2.2.2.1
      obtain ⟨ww3, hw3⟩ := uT3.2.2.2.2.2
      refine xn_iinc 212 4 (fun y => [some (.ref 72), some (.int (nI r)), some (.int (nI i)), some (.int (nI 0)), some (.int y)]) (k + 1) (ab_dd tk_re_readRider 107 rfl) rfl (by decide) rfl (fun _ => rfl) (iinc_p 1) ?_
      refine x_goto 179 (ab_dd tk_re_readRider 108 rfl) (by decide) ?_
      exact ih (k + 1) (by omega) U3 e i hr hi uF3 uT3 hsp
  have lp : r < 4 → ∀ (g : Nat) (U1 : ab_S) (q i : Nat) (Fx : Nat → Int32) (y3 y4 : Option Value), tF c S U1 → tL U1 tp n q c Fx r (r + 1) → i ≤ q → n - q < g → rdr tp n p F = lB (fl tp n r g q Fx) (fun p3 F3 => .inr (p3, up1 F3 1 (nI (r + 1)))) → ab_Ex G 7 M_re_readRider 113 [some (.ref 72), some (.int (nI r)), some (.int (nI i)), y3, y4] [] (sw U1) (rdQ S tp n c (rdr tp n p F)) := by
    intro hr g
    induction g with
    | zero => intro U1 q i Fx y3 y4 _ _ _ z; exact absurd z (by omega)
    | succ g ih =>
      intro U1 q i Fx y3 y4 uF1 uT1 hiq hg hsp0
      refine x_forget 3 (x_forget 4 ?_)
      have hq := uT1.1.2.2.2.2.2.2.1
      have hq42 := tK_lt tp n q
      have hend : 900 ≤ q → tK tp n q = 24 := fun z => tK_e (Nat.le_trans (by omega) (tS_b tp hq).1)
      have lks4 : ∀ (m k : Nat), k + m = 4 → ∀ (U1 : ab_S) (q1 : Nat) (Fx : Nat → Int32), q < q1 → tF c S U1 → tL U1 tp n q1 c Fx r (r + 1) → rdr tp n p F = lB (lB (lks tp n r m k q1 Fx) (fun q F => fl tp n r g q F)) (fun p3 F3 => .inr (p3, up1 F3 1 (nI (r + 1)))) → ab_Ex G 7 M_re_readRider 179 [some (.ref 72), some (.int (nI r)), some (.int (nI i)), some (.int (nI 0)), some (.int (nI k))] [] (sw U1) (rdQ S tp n c (rdr tp n p F)) := by
        intro m
        induction m with
        | zero =>
          intro k hk U1 q1 Fx hqq uF1 uT1 hsp
          have hq1 := uT1.1.2.2.2.2.2.2.1
          refine x_iload 181 4 (ab_dd tk_re_readRider 90 rfl) rfl rfl ?_
          refine x_iconst 182 4 (ab_dd tk_re_readRider 91 rfl) rfl (by decide) (x_topn 4 rfl ?_)
          refine x_icmp_ge_t 215 (ab_dd tk_re_readRider 92 rfl) (by decide) ((nI_leI (a := 4) (b := k) (by omega) (by omega)).mpr (show 4 ≤ k by omega)) ?_
          refine xn_iinc 218 2 (fun y => [some (.ref 72), some (.int (nI r)), some (.int y), some (.int (nI 0)), some (.int (nI k))]) (i + 1) (ab_dd tk_re_readRider 109 rfl) rfl (by decide) rfl (fun _ => rfl) (iinc_p 1) ?_
          refine x_goto 113 (ab_dd tk_re_readRider 110 rfl) (by decide) ?_
          exact ih U1 q1 (i + 1) Fx _ _ uF1 uT1 (by omega) (by omega) hsp
        | succ m ihm =>
          intro k hk U1 q1 Fx hqq uF1 uT1 hsp
          have hun : lks tp n r (m + 1) k q1 Fx = bN (xN tp n 9 q1) (fun q v => lks tp n r m (k + 1) q (up1 Fx (12 + 4 * r + k) (nI v))) := rfl
          refine x_iload 181 4 (ab_dd tk_re_readRider 90 rfl) rfl rfl ?_
          refine x_iconst 182 4 (ab_dd tk_re_readRider 91 rfl) rfl (by decide) (x_topn 4 rfl ?_)
          refine x_icmp_ge_f 185 (ab_dd tk_re_readRider 92 rfl) rfl 215 (by decide) (fun z => absurd ((nI_leI (a := 4) (b := k) (by omega) (by omega)).mp z) (show ¬ (4 ≤ k) by omega)) ?_
          refine x_iload_n 186 3 (ab_dd tk_re_readRider 93 rfl) rfl rfl rfl ?_
          refine x_if_ne_f 189 (ab_dd tk_re_readRider 94 rfl) rfl 215 (by decide) ((nI_eq (a := 0) (b := 0) (by omega) (by omega)).mpr (show 0 = 0 by rfl)) ?_
          refine x_aload_n 190 0 (ab_dd tk_re_readRider 95 rfl) rfl rfl rfl ?_
          refine t_getP 193 c (ab_dd tk_re_readRider 96 rfl) rfl F_re_40 (by decide) (Nat.lt_of_lt_of_le (by decide) uT1.1.1.1) (uT1.1.1.2.1 22 (by decide)) rfl uT1.2.1 ?_
          refine t_getP 196 (c + 2) (ab_dd tk_re_readRider 97 rfl) rfl F_re_144 (by omega) (Nat.lt_of_le_of_lt (Nat.le_add_right c 2) uT1.2.2.1.2.1) uT1.2.2.1.2.2.1 rfl uT1.2.2.1.2.2.2.2.2.2 ?_
          refine x_iload_n 197 1 (ab_dd tk_re_readRider 98 rfl) rfl rfl rfl ?_
          refine x_iconst 198 4 (ab_dd tk_re_readRider 99 rfl) rfl (by decide) (x_topn 4 rfl ?_)
          refine x_imul 199 (ab_dd tk_re_readRider 100 rfl) rfl (x_topn (r * 4) (pk_mul _ _) ?_)
          refine x_iload 201 4 (ab_dd tk_re_readRider 101 rfl) rfl rfl ?_
          refine x_iadd 202 (ab_dd tk_re_readRider 102 rfl) rfl (x_topn ((r * 4) + k) (nI_add _ _) ?_)
          refine x_aload_n 203 0 (ab_dd tk_re_readRider 103 rfl) rfl rfl rfl ?_
          refine x_bipush 205 9 (ab_dd tk_re_readRider 104 rfl) rfl (by decide) (x_topn 9 rfl ?_)
          refine t_callV 208 M_re_needNumber 6 1 [_] (ab_dd tk_re_readRider 105 rfl) rfl (by first | decide | omega) K_re_needNumber V_re_needNumber.1 V_re_needNumber.2 L_re_75 rfl (Nat.le_of_ble_eq_true rfl) (by decide) (Nat.lt_of_lt_of_le (by decide) uT1.1.1.1) (uT1.1.1.2.1 22 (by decide)) rfl (LA_needNumber uT1.1 9 (by decide)) (fun v1 w1 h1 => ?_)
          obtain ⟨U2, rfl, uG2, uO2⟩ := h1
          have uF2 : tF c S U2 := uF1.tr (tF.g uG2)
          rcases hX2 : xN tp n 9 q1 with e2 | ⟨q2, v2⟩
          · have hbs2 := (seaC_l uT1.2.2.2.1.2.2.2.2.2.2.2.2.1).1
            have hbw2 := (wC_l uT1.2.2.2.1.2.2.2.2.2.2.2.2.2).1
            rw [hX2] at uO2
            obtain ⟨uD2, rfl⟩ := uO2
            have uT2 := uT1.die (by omega) uG2 uD2
            obtain ⟨rr2, hr2⟩ := uT2.2.2.2.1
            obtain ⟨ss2, hs2⟩ := uT2.2.2.2.2.1
            obtain ⟨ww2, hw2⟩ := uT2.2.2.2.2.2
            refine t_iast 209 ((r * 4) + k) (ab_dd tk_re_readRider 106 rfl) rfl (by omega) uT2.2.2.1.2.1 uT2.2.2.1.2.2.2.2.1 rfl (by omega) (by decide) ?_
            obtain ⟨U3, hU3⟩ : ∃ U3, U3 = pI U2 (c + 2) (r * 4 + k) (nI 0) := ⟨_, rfl⟩
            rw [← hU3]
            have uF3 : tF c S U3 := uF2.tr (by rw [hU3]; exact tF.p (by omega) (by omega))
            have uT3 : tD U3 n e2 c := by rw [hU3]; exact uT2.put (by omega) (fun z => absurd z (by omega))
            obtain ⟨rr3, hr3⟩ := uT3.2.2.2.1
            obtain ⟨ss3, hs3⟩ := uT3.2.2.2.2.1
            obtain ⟨ww3, hw3⟩ := uT3.2.2.2.2.2
            refine xn_iinc 212 4 (fun y => [some (.ref 72), some (.int (nI r)), some (.int (nI i)), some (.int (nI 0)), some (.int y)]) (k + 1) (ab_dd tk_re_readRider 107 rfl) rfl (by decide) rfl (fun _ => rfl) (iinc_p 1) ?_
            refine x_goto 179 (ab_dd tk_re_readRider 108 rfl) (by decide) ?_
            exact dlk m (k + 1) (by omega) U3 _ i hr (by omega) uF3 uT3 (by rw [hsp, hun, hX2]; rfl)
          · rw [hX2] at uO2
            obtain ⟨rfl, uL2, hv2⟩ := uO2
            have hg2 := xN_g uT1.1.2.2.2.2.2.2.1 hX2
            have uT2 : tL U2 tp n q2 c Fx r (r + 1) := uT1.g uG2 uL2
            show ab_Ex _ _ _ _ _ (.int (nI v2) :: _) _ _
            refine t_iast 209 ((r * 4) + k) (ab_dd tk_re_readRider 106 rfl) rfl (by omega) uT2.2.2.1.2.1 uT2.2.2.1.2.2.2.2.1 rfl (by omega) (by decide) ?_
            obtain ⟨U4, hU4⟩ : ∃ U4, U4 = pI U2 (c + 2) (r * 4 + k) (nI v2) := ⟨_, rfl⟩
            rw [← hU4]
            have uF4 : tF c S U4 := uF2.tr (by rw [hU4]; exact tF.p (by omega) (by omega))
            have uT4 : tL U4 tp n q2 c (up1 Fx (12 + (r * 4 + k)) (nI v2)) r (r + 1) := by rw [hU4]; exact uT2.lik (by omega)
            refine xn_iinc 212 4 (fun y => [some (.ref 72), some (.int (nI r)), some (.int (nI i)), some (.int (nI 0)), some (.int y)]) (k + 1) (ab_dd tk_re_readRider 107 rfl) rfl (by decide) rfl (fun _ => rfl) (iinc_p 1) ?_
            refine x_goto 179 (ab_dd tk_re_readRider 108 rfl) (by decide) ?_
            exact ihm (k + 1) (by omega) U4 _ _ (by omega) uF4 uT4 (by rw [hsp, hun, hX2, show 12 + 4 * r + k = 12 + (r * 4 + k) by omega]; rfl)
      have hun : fl tp n r (g + 1) q Fx = if tK tp n q = 5 ∨ tK tp n q = 6 then lB (fg tp n r q Fx) (fun q F => fl tp n r g q F) else .inr (q, Fx) := rfl
      by_cases h5 : tK tp n q = 5
      · refine x_iload_n 114 2 (ab_dd tk_re_readRider 58 rfl) rfl rfl rfl ?_
        refine x_sipush 117 900 (ab_dd tk_re_readRider 59 rfl) rfl (by decide) (x_topn 900 rfl ?_)
        refine x_icmp_ge_f 120 (ab_dd tk_re_readRider 60 rfl) rfl 221 (by decide) (fun z => absurd ((nI_leI (a := 900) (b := i) (by omega) (by omega)).mp z) (show ¬ (900 ≤ i) by omega)) ?_
        refine x_aload_n 121 0 (ab_dd tk_re_readRider 61 rfl) rfl rfl rfl ?_
        refine x_ldcS 123 6 (ab_dd tk_re_readRider 62 rfl) rfl (by decide) (List.mem_of_getElem? (i := 6) rfl) ?_
        refine t_callV 126 M_re_isWord 4 1 [_] (ab_dd tk_re_readRider 63 rfl) rfl (by first | decide | omega) K_re_isWord V_re_isWord.1 V_re_isWord.2 L_re_93 rfl (Nat.le_of_ble_eq_true rfl) (by decide) (Nat.lt_of_lt_of_le (by decide) uT1.1.1.1) (uT1.1.1.2.1 22 (by decide)) rfl (LA_isWord uT1.1 5 6 (by decide) rfl) (fun v1 w1 h1 => ?_)
        obtain ⟨rfl, rfl⟩ := h1
        rw [if_pos (show tK tp n q = 5 by omega)]
        show ab_Ex _ _ _ _ _ (.int (nI 1) :: _) _ _
        refine x_if_ne_t 138 (ab_dd tk_re_readRider 64 rfl) (by decide) (by decide) ?_
        refine x_aload_n 139 0 (ab_dd tk_re_readRider 69 rfl) rfl rfl rfl ?_
        refine x_ldcS 141 6 (ab_dd tk_re_readRider 70 rfl) rfl (by decide) (List.mem_of_getElem? (i := 6) rfl) ?_
        refine t_callV 144 M_re_isWord 4 1 [_] (ab_dd tk_re_readRider 71 rfl) rfl (by first | decide | omega) K_re_isWord V_re_isWord.1 V_re_isWord.2 L_re_93 rfl (Nat.le_of_ble_eq_true rfl) (by decide) (Nat.lt_of_lt_of_le (by decide) uT1.1.1.1) (uT1.1.1.2.1 22 (by decide)) rfl (LA_isWord uT1.1 5 6 (by decide) rfl) (fun v1 w1 h1 => ?_)
        obtain ⟨rfl, rfl⟩ := h1
        rw [if_pos (show tK tp n q = 5 by omega)]
        show ab_Ex _ _ _ _ _ (.int (nI 1) :: _) _ _
        refine x_istore_n 145 [some (.ref 72), some (.int (nI r)), some (.int (nI i)), some (.int (nI 1)), none] 3 (ab_dd tk_re_readRider 72 rfl) rfl rfl (by decide) rfl ?_
        refine x_aload_n 146 0 (ab_dd tk_re_readRider 73 rfl) rfl rfl rfl ?_
        refine t_callV 149 M_re_advance 5 0 [] (ab_dd tk_re_readRider 74 rfl) rfl (by first | decide | omega) K_re_advance V_re_advance.1 V_re_advance.2 L_re_64 rfl (Nat.le_of_ble_eq_true rfl) (by decide) (Nat.lt_of_lt_of_le (by decide) uT1.1.1.1) (uT1.1.1.2.1 22 (by decide)) rfl (LA_adv uT1.1 (by omega)) (fun v1 w1 h1 => ?_)
        obtain ⟨rfl, U2, rfl, uG2, uL2⟩ := h1
        have ht2 := tE_g uT1.1.2.2.2.2.2.2.1 (show tK tp n q ≠ 24 by omega)
        have uT2 := uT1.g uG2 uL2
        have uF2 : tF c S U2 := uF1.tr (tF.g uG2)
        refine x_iload_n 150 3 (ab_dd tk_re_readRider 75 rfl) rfl rfl rfl ?_
        refine x_if_eq_f 153 (ab_dd tk_re_readRider 76 rfl) rfl 176 (by decide) (fun z => absurd ((nI_eq (a := 1) (b := 0) (by omega) (by omega)).mp z) (show ¬ (1 = 0) by decide)) ?_
        refine x_aload_n 154 0 (ab_dd tk_re_readRider 77 rfl) rfl rfl rfl ?_
        refine t_getP 157 c (ab_dd tk_re_readRider 78 rfl) rfl F_re_40 (by decide) (Nat.lt_of_lt_of_le (by decide) uT2.1.1.1) (uT2.1.1.2.1 22 (by decide)) rfl uT2.2.1 ?_
        refine x_aload_n 158 0 (ab_dd tk_re_readRider 79 rfl) rfl rfl rfl ?_
        refine t_getP 161 c (ab_dd tk_re_readRider 80 rfl) rfl F_re_40 (by decide) (Nat.lt_of_lt_of_le (by decide) uT2.1.1.1) (uT2.1.1.2.1 22 (by decide)) rfl uT2.2.1 ?_
        refine t_getI 164 (ab_dd tk_re_readRider 81 rfl) rfl F_re_135 (by omega) (Nat.lt_of_le_of_lt (Nat.le_add_right c 2) uT2.2.2.1.2.1) uT2.2.2.1.2.2.1 rfl (x_topn (wC Fx) uT2.2.2.2.1.2.2.2.1 ?_)
        refine x_iload_n 165 1 (ab_dd tk_re_readRider 82 rfl) rfl rfl rfl ?_
        refine x_aload_n 166 0 (ab_dd tk_re_readRider 83 rfl) rfl rfl rfl ?_
        refine x_iconst 167 4 (ab_dd tk_re_readRider 84 rfl) rfl (by decide) (x_topn 4 rfl ?_)
        refine t_callV 170 M_re_needNumber 6 1 [_] (ab_dd tk_re_readRider 85 rfl) rfl (by first | decide | omega) K_re_needNumber V_re_needNumber.1 V_re_needNumber.2 L_re_75 rfl (Nat.le_of_ble_eq_true rfl) (by decide) (Nat.lt_of_lt_of_le (by decide) uT2.1.1.1) (uT2.1.1.2.1 22 (by decide)) rfl (LA_needNumber uT2.1 4 (by decide)) (fun v1 w1 h1 => ?_)
        obtain ⟨U3, rfl, uG3, uO3⟩ := h1
        have uF3 : tF c S U3 := uF2.tr (tF.g uG3)
        rcases hX3 : xN tp n 4 (tE tp n q) with e3 | ⟨q3, v3⟩
        · have hbs3 := (seaC_l uT2.2.2.2.1.2.2.2.2.2.2.2.2.1).1
          have hbw3 := (wC_l uT2.2.2.2.1.2.2.2.2.2.2.2.2.2).1
          rw [hX3] at uO3
          obtain ⟨uD3, rfl⟩ := uO3
          have uT3 := uT2.die (by omega) uG3 uD3
          obtain ⟨rr3, hr3⟩ := uT3.2.2.2.1
          obtain ⟨ss3, hs3⟩ := uT3.2.2.2.2.1
          obtain ⟨ww3, hw3⟩ := uT3.2.2.2.2.2
          refine x_callS 173 M_s_withWarmth 1 3 [_, _, _] (ab_dd tk_re_readRider 86 rfl) rfl (by first | decide | omega) K_s_withWarmth T_s_withWarmth L_re_138 rfl (Nat.le_of_ble_eq_true rfl) (c_s_withWarmth uT3.1.2.1 (Nat.le_trans (by decide) uT3.1.1.1) (wC Fx) r 0 (by omega) (by omega) (by omega)) (fun v1 w1 h1 => ?_)
          obtain ⟨rfl, rfl⟩ := h1
          have hm6 : mWi (wC Fx) r 0 < 625 := by
            have hm := (mWi_ok (c := (wC Fx)) (r := r) (x := 0) (by omega) (by omega) (by omega)).2.1
            omega
          refine t_putI 176 (ab_dd tk_re_readRider 87 rfl) rfl F_re_135 (by omega) (Nat.lt_of_le_of_lt (Nat.le_add_right c 2) uT3.2.2.1.2.1) uT3.2.2.1.2.2.1 rfl rfl rfl ?_
          obtain ⟨U4, hU4⟩ : ∃ U4, U4 = pI U3 c 4 (nI (mWi (wC Fx) r 0)) := ⟨_, rfl⟩
          rw [← hU4]
          have uF4 : tF c S U4 := uF3.tr (by rw [hU4]; exact tF.p (by omega) (by omega))
          have uT4 : tD U4 n e3 c := by rw [hU4]; exact uT3.put (by omega) (fun _ => Or.inr ⟨rfl, _, hm6, rfl⟩)
          obtain ⟨rr4, hr4⟩ := uT4.2.2.2.1
          obtain ⟨ss4, hs4⟩ := uT4.2.2.2.2.1
          obtain ⟨ww4, hw4⟩ := uT4.2.2.2.2.2
          refine x_iconst 177 0 (ab_dd tk_re_readRider 88 rfl) rfl (by decide) (x_topn 0 rfl ?_)
          refine x_istore 179 [some (.ref 72), some (.int (nI r)), some (.int (nI i)), some (.int (nI 1)), some (.int (nI 0))] 4 (ab_dd tk_re_readRider 89 rfl) rfl (by decide) rfl ?_
          refine x_iload 181 4 (ab_dd tk_re_readRider 90 rfl) rfl rfl ?_
          refine x_iconst 182 4 (ab_dd tk_re_readRider 91 rfl) rfl (by decide) (x_topn 4 rfl ?_)
          refine x_icmp_ge_f 185 (ab_dd tk_re_readRider 92 rfl) rfl 215 (by decide) (fun z => absurd ((nI_leI (a := 4) (b := 0) (by omega) (by omega)).mp z) (show ¬ (4 ≤ 0) by decide)) ?_
          refine x_iload_n 186 3 (ab_dd tk_re_readRider 93 rfl) rfl rfl rfl ?_
          refine x_if_ne_t 215 (ab_dd tk_re_readRider 94 rfl) (by decide) (fun z => absurd ((nI_eq (a := 1) (b := 0) (by omega) (by omega)).mp z) (show ¬ (1 = 0) by decide)) ?_
          refine xn_iinc 218 2 (fun y => [some (.ref 72), some (.int (nI r)), some (.int y), some (.int (nI 1)), some (.int (nI 0))]) (i + 1) (ab_dd tk_re_readRider 109 rfl) rfl (by decide) rfl (fun _ => rfl) (iinc_p 1) ?_
          refine x_goto 113 (ab_dd tk_re_readRider 110 rfl) (by decide) ?_
          exact dlp U4 _ (i + 1) _ _ (by omega) uF4 uT4 (by
            rw [hsp0, hun, if_pos (by omega)]
            unfold fg
            rw [if_pos h5, hX3]
            rfl)
        · rw [hX3] at uO3
          obtain ⟨rfl, uL3, hv3⟩ := uO3
          have hg3 := xN_g uT2.1.2.2.2.2.2.2.1 hX3
          have uT3 : tL U3 tp n q3 c Fx r (r + 1) := uT2.g uG3 uL3
          show ab_Ex _ _ _ _ _ (.int (nI v3) :: _) _ _
          refine x_callS 173 M_s_withWarmth 1 3 [_, _, _] (ab_dd tk_re_readRider 86 rfl) rfl (by first | decide | omega) K_s_withWarmth T_s_withWarmth L_re_138 rfl (Nat.le_of_ble_eq_true rfl) (c_s_withWarmth uT3.1.2.1 (Nat.le_trans (by decide) uT3.1.1.1) (wC Fx) r v3 (wC_l uT3.2.2.2.1.2.2.2.2.2.2.2.2.2).1 (by omega) (by omega)) (fun v1 w1 h1 => ?_)
          obtain ⟨rfl, rfl⟩ := h1
          refine t_putI 176 (ab_dd tk_re_readRider 87 rfl) rfl F_re_135 (by omega) (Nat.lt_of_le_of_lt (Nat.le_add_right c 2) uT3.2.2.1.2.1) uT3.2.2.1.2.2.1 rfl rfl rfl ?_
          obtain ⟨U5, hU5⟩ : ∃ U5, U5 = pI U3 c 4 (nI (mWi (wC Fx) r v3)) := ⟨_, rfl⟩
          rw [← hU5]
          have uF5 : tF c S U5 := uF3.tr (by rw [hU5]; exact tF.p (by omega) (by omega))
          have uT5 : tL U5 tp n q3 c (up1 Fx (32 + r) (nI v3)) r (r + 1) := by rw [hU5]; exact uT3.wrm (by omega) (by omega)
          refine x_iconst 177 0 (ab_dd tk_re_readRider 88 rfl) rfl (by decide) (x_topn 0 rfl ?_)
          refine x_istore 179 [some (.ref 72), some (.int (nI r)), some (.int (nI i)), some (.int (nI 1)), some (.int (nI 0))] 4 (ab_dd tk_re_readRider 89 rfl) rfl (by decide) rfl ?_
          refine x_iload 181 4 (ab_dd tk_re_readRider 90 rfl) rfl rfl ?_
          refine x_iconst 182 4 (ab_dd tk_re_readRider 91 rfl) rfl (by decide) (x_topn 4 rfl ?_)
          refine x_icmp_ge_f 185 (ab_dd tk_re_readRider 92 rfl) rfl 215 (by decide) (fun z => absurd ((nI_leI (a := 4) (b := 0) (by omega) (by omega)).mp z) (show ¬ (4 ≤ 0) by decide)) ?_
          refine x_iload_n 186 3 (ab_dd tk_re_readRider 93 rfl) rfl rfl rfl ?_
          refine x_if_ne_t 215 (ab_dd tk_re_readRider 94 rfl) (by decide) (fun z => absurd ((nI_eq (a := 1) (b := 0) (by omega) (by omega)).mp z) (show ¬ (1 = 0) by decide)) ?_
          refine xn_iinc 218 2 (fun y => [some (.ref 72), some (.int (nI r)), some (.int y), some (.int (nI 1)), some (.int (nI 0))]) (i + 1) (ab_dd tk_re_readRider 109 rfl) rfl (by decide) rfl (fun _ => rfl) (iinc_p 1) ?_
          refine x_goto 113 (ab_dd tk_re_readRider 110 rfl) (by decide) ?_
          exact ih U5 _ (i + 1) _ _ _ uF5 uT5 (by omega) (by omega) (by
            rw [hsp0, hun, if_pos (by omega)]
            unfold fg
            rw [if_pos h5, hX3]
            rfl)
      · by_cases h6 : tK tp n q = 6
        · refine x_iload_n 114 2 (ab_dd tk_re_readRider 58 rfl) rfl rfl rfl ?_
          refine x_sipush 117 900 (ab_dd tk_re_readRider 59 rfl) rfl (by decide) (x_topn 900 rfl ?_)
          refine x_icmp_ge_f 120 (ab_dd tk_re_readRider 60 rfl) rfl 221 (by decide) (fun z => absurd ((nI_leI (a := 900) (b := i) (by omega) (by omega)).mp z) (show ¬ (900 ≤ i) by omega)) ?_
          refine x_aload_n 121 0 (ab_dd tk_re_readRider 61 rfl) rfl rfl rfl ?_
          refine x_ldcS 123 6 (ab_dd tk_re_readRider 62 rfl) rfl (by decide) (List.mem_of_getElem? (i := 6) rfl) ?_
          refine t_callV 126 M_re_isWord 4 1 [_] (ab_dd tk_re_readRider 63 rfl) rfl (by first | decide | omega) K_re_isWord V_re_isWord.1 V_re_isWord.2 L_re_93 rfl (Nat.le_of_ble_eq_true rfl) (by decide) (Nat.lt_of_lt_of_le (by decide) uT1.1.1.1) (uT1.1.1.2.1 22 (by decide)) rfl (LA_isWord uT1.1 5 6 (by decide) rfl) (fun v1 w1 h1 => ?_)
          obtain ⟨rfl, rfl⟩ := h1
          rw [if_neg (show ¬ tK tp n q = 5 by omega)]
          show ab_Ex _ _ _ _ _ (.int (nI 0) :: _) _ _
          refine x_if_ne_f 129 (ab_dd tk_re_readRider 64 rfl) rfl 138 (by decide) (by decide) ?_
          refine x_aload_n 130 0 (ab_dd tk_re_readRider 65 rfl) rfl rfl rfl ?_
          refine x_ldcS 132 7 (ab_dd tk_re_readRider 66 rfl) rfl (by decide) (List.mem_of_getElem? (i := 7) rfl) ?_
          refine t_callV 135 M_re_isWord 4 1 [_] (ab_dd tk_re_readRider 67 rfl) rfl (by first | decide | omega) K_re_isWord V_re_isWord.1 V_re_isWord.2 L_re_93 rfl (Nat.le_of_ble_eq_true rfl) (by decide) (Nat.lt_of_lt_of_le (by decide) uT1.1.1.1) (uT1.1.1.2.1 22 (by decide)) rfl (LA_isWord uT1.1 6 7 (by decide) rfl) (fun v1 w1 h1 => ?_)
          obtain ⟨rfl, rfl⟩ := h1
          rw [if_pos (show tK tp n q = 6 by omega)]
          show ab_Ex _ _ _ _ _ (.int (nI 1) :: _) _ _
          refine x_if_eq_f 138 (ab_dd tk_re_readRider 68 rfl) rfl 221 (by decide) (by decide) ?_
          refine x_aload_n 139 0 (ab_dd tk_re_readRider 69 rfl) rfl rfl rfl ?_
          refine x_ldcS 141 6 (ab_dd tk_re_readRider 70 rfl) rfl (by decide) (List.mem_of_getElem? (i := 6) rfl) ?_
          refine t_callV 144 M_re_isWord 4 1 [_] (ab_dd tk_re_readRider 71 rfl) rfl (by first | decide | omega) K_re_isWord V_re_isWord.1 V_re_isWord.2 L_re_93 rfl (Nat.le_of_ble_eq_true rfl) (by decide) (Nat.lt_of_lt_of_le (by decide) uT1.1.1.1) (uT1.1.1.2.1 22 (by decide)) rfl (LA_isWord uT1.1 5 6 (by decide) rfl) (fun v1 w1 h1 => ?_)
          obtain ⟨rfl, rfl⟩ := h1
          rw [if_neg (show ¬ tK tp n q = 5 by omega)]
          show ab_Ex _ _ _ _ _ (.int (nI 0) :: _) _ _
          refine x_istore_n 145 [some (.ref 72), some (.int (nI r)), some (.int (nI i)), some (.int (nI 0)), none] 3 (ab_dd tk_re_readRider 72 rfl) rfl rfl (by decide) rfl ?_
          refine x_aload_n 146 0 (ab_dd tk_re_readRider 73 rfl) rfl rfl rfl ?_
          refine t_callV 149 M_re_advance 5 0 [] (ab_dd tk_re_readRider 74 rfl) rfl (by first | decide | omega) K_re_advance V_re_advance.1 V_re_advance.2 L_re_64 rfl (Nat.le_of_ble_eq_true rfl) (by decide) (Nat.lt_of_lt_of_le (by decide) uT1.1.1.1) (uT1.1.1.2.1 22 (by decide)) rfl (LA_adv uT1.1 (by omega)) (fun v1 w1 h1 => ?_)
          obtain ⟨rfl, U2, rfl, uG2, uL2⟩ := h1
          have ht2 := tE_g uT1.1.2.2.2.2.2.2.1 (show tK tp n q ≠ 24 by omega)
          have uT2 := uT1.g uG2 uL2
          have uF2 : tF c S U2 := uF1.tr (tF.g uG2)
          refine x_iload_n 150 3 (ab_dd tk_re_readRider 75 rfl) rfl rfl rfl ?_
          refine x_if_eq_t 176 (ab_dd tk_re_readRider 76 rfl) (by decide) ((nI_eq (a := 0) (b := 0) (by omega) (by omega)).mpr (show 0 = 0 by rfl)) ?_
          refine x_iconst 177 0 (ab_dd tk_re_readRider 88 rfl) rfl (by decide) (x_topn 0 rfl ?_)
          refine x_istore 179 [some (.ref 72), some (.int (nI r)), some (.int (nI i)), some (.int (nI 0)), some (.int (nI 0))] 4 (ab_dd tk_re_readRider 89 rfl) rfl (by decide) rfl ?_
          exact lks4 4 0 (by omega) U2 _ _ (by omega) uF2 uT2 (by
            rw [hsp0, hun, if_pos (by omega)]
            unfold fg
            rw [if_neg h5])
        · refine x_iload_n 114 2 (ab_dd tk_re_readRider 58 rfl) rfl rfl rfl ?_
          refine x_sipush 117 900 (ab_dd tk_re_readRider 59 rfl) rfl (by decide) (x_topn 900 rfl ?_)
          refine xn_icmp_ge 120 221 (ab_dd tk_re_readRider 60 rfl) rfl (by decide) (by omega) (by omega) (fun h117 => ?_) (fun h117 => ?_)
          · have h24 := hend (by omega)
            have hsp : rdr tp n p F = .inr (q, up1 Fx 1 (nI (r + 1))) := by
              rw [hsp0, hun, if_neg (by omega)]
              rfl
            exact x_vret (ab_dd tk_re_readRider 111 rfl) ⟨rfl, U1, rfl, uF1, by rw [hsp]; exact ⟨r + 1, uT1.rid (by omega)⟩⟩
          · refine x_aload_n 121 0 (ab_dd tk_re_readRider 61 rfl) rfl rfl rfl ?_
            refine x_ldcS 123 6 (ab_dd tk_re_readRider 62 rfl) rfl (by decide) (List.mem_of_getElem? (i := 6) rfl) ?_
            refine t_callV 126 M_re_isWord 4 1 [_] (ab_dd tk_re_readRider 63 rfl) rfl (by first | decide | omega) K_re_isWord V_re_isWord.1 V_re_isWord.2 L_re_93 rfl (Nat.le_of_ble_eq_true rfl) (by decide) (Nat.lt_of_lt_of_le (by decide) uT1.1.1.1) (uT1.1.1.2.1 22 (by decide)) rfl (LA_isWord uT1.1 5 6 (by decide) rfl) (fun v1 w1 h1 => ?_)
            obtain ⟨rfl, rfl⟩ := h1
            rw [if_neg (show ¬ tK tp n q = 5 by omega)]
            show ab_Ex _ _ _ _ _ (.int (nI 0) :: _) _ _
            refine x_if_ne_f 129 (ab_dd tk_re_readRider 64 rfl) rfl 138 (by decide) (by decide) ?_
            refine x_aload_n 130 0 (ab_dd tk_re_readRider 65 rfl) rfl rfl rfl ?_
            refine x_ldcS 132 7 (ab_dd tk_re_readRider 66 rfl) rfl (by decide) (List.mem_of_getElem? (i := 7) rfl) ?_
            refine t_callV 135 M_re_isWord 4 1 [_] (ab_dd tk_re_readRider 67 rfl) rfl (by first | decide | omega) K_re_isWord V_re_isWord.1 V_re_isWord.2 L_re_93 rfl (Nat.le_of_ble_eq_true rfl) (by decide) (Nat.lt_of_lt_of_le (by decide) uT1.1.1.1) (uT1.1.1.2.1 22 (by decide)) rfl (LA_isWord uT1.1 6 7 (by decide) rfl) (fun v1 w1 h1 => ?_)
            obtain ⟨rfl, rfl⟩ := h1
            rw [if_neg (show ¬ tK tp n q = 6 by omega)]
            show ab_Ex _ _ _ _ _ (.int (nI 0) :: _) _ _
            refine x_if_eq_t 221 (ab_dd tk_re_readRider 68 rfl) (by decide) (by decide) ?_
            have hsp : rdr tp n p F = .inr (q, up1 Fx 1 (nI (r + 1))) := by
              rw [hsp0, hun, if_neg (by omega)]
              rfl
            exact x_vret (ab_dd tk_re_readRider 111 rfl) ⟨rfl, U1, rfl, uF1, by rw [hsp]; exact ⟨r + 1, uT1.rid (by omega)⟩⟩
  refine x_aload_n 1 0 (ab_dd tk_re_readRider 0 rfl) rfl rfl rfl ?_
  refine t_getP 4 c (ab_dd tk_re_readRider 1 rfl) rfl F_re_40 (by decide) (Nat.lt_of_lt_of_le (by decide) uT0.1.1.1) (uT0.1.1.2.1 22 (by decide)) rfl uT0.2.1 ?_
  refine t_getI 7 (ab_dd tk_re_readRider 2 rfl) rfl F_re_118 (by omega) (Nat.lt_of_le_of_lt (Nat.le_add_right c 2) uT0.2.2.1.2.1) uT0.2.2.1.2.2.1 rfl (x_topn r uT0.2.2.2.2 ?_)
  refine x_iconst 8 4 (ab_dd tk_re_readRider 3 rfl) rfl (by decide) (x_topn 4 rfl ?_)
  refine xn_icmp_lt 11 17 (ab_dd tk_re_readRider 4 rfl) rfl (by decide) (by omega) (by omega) (fun h8 => ?_) (fun h8 => ?_)
  · refine x_aload_n 18 0 (ab_dd tk_re_readRider 9 rfl) rfl rfl rfl ?_
    refine t_getP 21 c (ab_dd tk_re_readRider 10 rfl) rfl F_re_40 (by decide) (Nat.lt_of_lt_of_le (by decide) uT0.1.1.1) (uT0.1.1.2.1 22 (by decide)) rfl uT0.2.1 ?_
    refine t_getI 24 (ab_dd tk_re_readRider 11 rfl) rfl F_re_118 (by omega) (Nat.lt_of_le_of_lt (Nat.le_add_right c 2) uT0.2.2.1.2.1) uT0.2.2.1.2.2.1 rfl (x_topn r uT0.2.2.2.2 ?_)
    refine x_istore_n 25 [some (.ref 72), some (.int (nI r)), none, none, none] 1 (ab_dd tk_re_readRider 12 rfl) rfl rfl (by decide) rfl ?_
    refine x_aload_n 26 0 (ab_dd tk_re_readRider 13 rfl) rfl rfl rfl ?_
    refine t_getP 29 c (ab_dd tk_re_readRider 14 rfl) rfl F_re_40 (by decide) (Nat.lt_of_lt_of_le (by decide) uT0.1.1.1) (uT0.1.1.2.1 22 (by decide)) rfl uT0.2.1 ?_
    refine x_dup 30 (ab_dd tk_re_readRider 15 rfl) rfl rfl ?_
    refine t_getI 33 (ab_dd tk_re_readRider 16 rfl) rfl F_re_118 (by omega) (Nat.lt_of_le_of_lt (Nat.le_add_right c 2) uT0.2.2.1.2.1) uT0.2.2.1.2.2.1 rfl (x_topn r uT0.2.2.2.2 ?_)
    refine x_iconst 34 1 (ab_dd tk_re_readRider 17 rfl) rfl (by decide) (x_topn 1 rfl ?_)
    refine x_iadd 35 (ab_dd tk_re_readRider 18 rfl) rfl (x_topn (r + 1) (nI_add _ _) ?_)
    refine t_putI 38 (ab_dd tk_re_readRider 19 rfl) rfl F_re_118 (by omega) (Nat.lt_of_le_of_lt (Nat.le_add_right c 2) uT0.2.2.1.2.1) uT0.2.2.1.2.2.1 rfl rfl rfl ?_
    obtain ⟨U1, hU1⟩ : ∃ U1, U1 = pI S c 0 (nI (r + 1)) := ⟨_, rfl⟩
    rw [← hU1]
    have uF1 : tF c S U1 := uF0.tr (by rw [hU1]; exact tF.p (by omega) (by omega))
    have uT1 : tL U1 tp n p c F r (r + 1) := by rw [hU1]; exact uT0.put0
    refine x_aload_n 39 0 (ab_dd tk_re_readRider 20 rfl) rfl rfl rfl ?_
    refine t_callV 42 M_re_advance 5 0 [] (ab_dd tk_re_readRider 21 rfl) rfl (by first | decide | omega) K_re_advance V_re_advance.1 V_re_advance.2 L_re_64 rfl (Nat.le_of_ble_eq_true rfl) (by decide) (Nat.lt_of_lt_of_le (by decide) uT1.1.1.1) (uT1.1.1.2.1 22 (by decide)) rfl (LA_adv uT1.1 (by omega)) (fun v1 w1 h1 => ?_)
    obtain ⟨rfl, U2, rfl, uG2, uL2⟩ := h1
    have ht2 := tE_g uT1.1.2.2.2.2.2.2.1 (show tK tp n p ≠ 24 by omega)
    have uT2 := uT1.g uG2 uL2
    have uF2 : tF c S U2 := uF1.tr (tF.g uG2)
    refine x_aload_n 43 0 (ab_dd tk_re_readRider 22 rfl) rfl rfl rfl ?_
    refine x_ldcS 45 4 (ab_dd tk_re_readRider 23 rfl) rfl (by decide) (List.mem_of_getElem? (i := 4) rfl) ?_
    refine t_callV 48 M_re_needWord 6 1 [_] (ab_dd tk_re_readRider 24 rfl) rfl (by first | decide | omega) K_re_needWord V_re_needWord.1 V_re_needWord.2 L_re_69 rfl (Nat.le_of_ble_eq_true rfl) (by decide) (Nat.lt_of_lt_of_le (by decide) uT2.1.1.1) (uT2.1.1.2.1 22 (by decide)) rfl (LA_needWord uT2.1 3 4 (by decide) rfl) (fun v1 w1 h1 => ?_)
    obtain ⟨rfl, U3, rfl, uG3, uO3⟩ := h1
    have uF3 : tF c S U3 := uF2.tr (tF.g uG3)
    rcases uO3 with ⟨hk3, uL3⟩ | ⟨hk3, uD3⟩
    · have ht3 := tE_g uT2.1.2.2.2.2.2.2.1 (show tK tp n (tE tp n p) ≠ 24 by omega)
      have uT3 := uT2.g uG3 uL3
      refine x_aload_n 49 0 (ab_dd tk_re_readRider 25 rfl) rfl rfl rfl ?_
      refine t_getP 52 c (ab_dd tk_re_readRider 26 rfl) rfl F_re_40 (by decide) (Nat.lt_of_lt_of_le (by decide) uT3.1.1.1) (uT3.1.1.2.1 22 (by decide)) rfl uT3.2.1 ?_
      refine x_aload_n 53 0 (ab_dd tk_re_readRider 27 rfl) rfl rfl rfl ?_
      refine t_getP 56 c (ab_dd tk_re_readRider 28 rfl) rfl F_re_40 (by decide) (Nat.lt_of_lt_of_le (by decide) uT3.1.1.1) (uT3.1.1.2.1 22 (by decide)) rfl uT3.2.1 ?_
      refine t_getI 59 (ab_dd tk_re_readRider 29 rfl) rfl F_re_123 (by omega) (Nat.lt_of_le_of_lt (Nat.le_add_right c 2) uT3.2.2.1.2.1) uT3.2.2.1.2.2.1 rfl (x_topn (seaC F) uT3.2.2.2.1.2.2.1 ?_)
      refine x_iload_n 60 1 (ab_dd tk_re_readRider 30 rfl) rfl rfl rfl ?_
      refine x_aload_n 61 0 (ab_dd tk_re_readRider 31 rfl) rfl rfl rfl ?_
      refine x_iconst 62 3 (ab_dd tk_re_readRider 32 rfl) rfl (by decide) (x_topn 3 rfl ?_)
      refine t_callV 65 M_re_needNumber 6 1 [_] (ab_dd tk_re_readRider 33 rfl) rfl (by first | decide | omega) K_re_needNumber V_re_needNumber.1 V_re_needNumber.2 L_re_75 rfl (Nat.le_of_ble_eq_true rfl) (by decide) (Nat.lt_of_lt_of_le (by decide) uT3.1.1.1) (uT3.1.1.2.1 22 (by decide)) rfl (LA_needNumber uT3.1 3 (by decide)) (fun v1 w1 h1 => ?_)
      obtain ⟨U4, rfl, uG4, uO4⟩ := h1
      have uF4 : tF c S U4 := uF3.tr (tF.g uG4)
      rcases hX4 : xN tp n 3 (tE tp n (tE tp n p)) with e4 | ⟨q4, v4⟩
      · have hbs4 := (seaC_l uT3.2.2.2.1.2.2.2.2.2.2.2.2.1).1
        have hbw4 := (wC_l uT3.2.2.2.1.2.2.2.2.2.2.2.2.2).1
        rw [hX4] at uO4
        obtain ⟨uD4, rfl⟩ := uO4
        have uT4 := uT3.die (by omega) uG4 uD4
        obtain ⟨rr4, hr4⟩ := uT4.2.2.2.1
        obtain ⟨ss4, hs4⟩ := uT4.2.2.2.2.1
        obtain ⟨ww4, hw4⟩ := uT4.2.2.2.2.2
        refine x_callS 68 M_s_withSeason 0 3 [_, _, _] (ab_dd tk_re_readRider 34 rfl) rfl (by first | decide | omega) K_s_withSeason T_s_withSeason L_re_126 rfl (Nat.le_of_ble_eq_true rfl) (c_s_withSeason (seaC F) r 0 (by omega) (by omega) (by omega)) (fun v1 w1 h1 => ?_)
        obtain ⟨rfl, rfl⟩ := h1
        have hc4 : c4 (fun i => if i = r then 0 else d4 (seaC F) i) < 256 := c4_lt (fun i _ => by have := d4_lt (seaC F) i; split <;> omega)
        refine t_putI 71 (ab_dd tk_re_readRider 35 rfl) rfl F_re_123 (by omega) (Nat.lt_of_le_of_lt (Nat.le_add_right c 2) uT4.2.2.1.2.1) uT4.2.2.1.2.2.1 rfl rfl rfl ?_
        obtain ⟨U5, hU5⟩ : ∃ U5, U5 = pI U4 c 3 (nI (c4 (fun i => if i = r then 0 else d4 (seaC F) i))) := ⟨_, rfl⟩
        rw [← hU5]
        have uF5 : tF c S U5 := uF4.tr (by rw [hU5]; exact tF.p (by omega) (by omega))
        have uT5 : tD U5 n e4 c := by rw [hU5]; exact uT4.put (by omega) (fun _ => Or.inl ⟨rfl, _, hc4, rfl⟩)
        obtain ⟨rr5, hr5⟩ := uT5.2.2.2.1
        obtain ⟨ss5, hs5⟩ := uT5.2.2.2.2.1
        obtain ⟨ww5, hw5⟩ := uT5.2.2.2.2.2
        refine x_aload_n 72 0 (ab_dd tk_re_readRider 36 rfl) rfl rfl rfl ?_
        refine x_ldcS 74 5 (ab_dd tk_re_readRider 37 rfl) rfl (by decide) (List.mem_of_getElem? (i := 5) rfl) ?_
        refine t_callV 77 M_re_needWord 6 1 [_] (ab_dd tk_re_readRider 38 rfl) rfl (by first | decide | omega) K_re_needWord V_re_needWord.1 V_re_needWord.2 L_re_69 rfl (Nat.le_of_ble_eq_true rfl) (by decide) (Nat.lt_of_lt_of_le (by decide) uT5.1.1.1) (uT5.1.1.2.1 22 (by decide)) rfl (DA_needWord uT5.1 _) (fun v1 w1 h1 => ?_)
        obtain ⟨rfl, U6, rfl, uG6, uD6⟩ := h1
        have uT6 : tD U6 n e4 c := uT5.g uG6 uD6
        have uF6 : tF c S U6 := uF5.tr (tF.g uG6)
        obtain ⟨rr6, hr6⟩ := uT6.2.2.2.1
        obtain ⟨ss6, hs6⟩ := uT6.2.2.2.2.1
        obtain ⟨ww6, hw6⟩ := uT6.2.2.2.2.2
        refine x_aload_n 78 0 (ab_dd tk_re_readRider 39 rfl) rfl rfl rfl ?_
        refine t_getP 81 c (ab_dd tk_re_readRider 40 rfl) rfl F_re_40 (by decide) (Nat.lt_of_lt_of_le (by decide) uT6.1.1.1) (uT6.1.1.2.1 22 (by decide)) rfl uT6.2.1 ?_
        refine t_getP 84 (c + 1) (ab_dd tk_re_readRider 41 rfl) rfl F_re_132 (by omega) (Nat.lt_of_le_of_lt (Nat.le_add_right c 2) uT6.2.2.1.2.1) uT6.2.2.1.2.2.1 rfl uT6.2.2.1.2.2.2.2.2.1 ?_
        refine x_iload_n 85 1 (ab_dd tk_re_readRider 42 rfl) rfl rfl rfl ?_
        refine x_aload_n 86 0 (ab_dd tk_re_readRider 43 rfl) rfl rfl rfl ?_
        refine x_bipush 88 9 (ab_dd tk_re_readRider 44 rfl) rfl (by decide) (x_topn 9 rfl ?_)
        refine t_callV 91 M_re_needNumber 6 1 [_] (ab_dd tk_re_readRider 45 rfl) rfl (by first | decide | omega) K_re_needNumber V_re_needNumber.1 V_re_needNumber.2 L_re_75 rfl (Nat.le_of_ble_eq_true rfl) (by decide) (Nat.lt_of_lt_of_le (by decide) uT6.1.1.1) (uT6.1.1.2.1 22 (by decide)) rfl (DA_needNumber uT6.1 _) (fun v1 w1 h1 => ?_)
        obtain ⟨rfl, U7, rfl, uG7, uD7⟩ := h1
        have uT7 : tD U7 n e4 c := uT6.g uG7 uD7
        have uF7 : tF c S U7 := uF6.tr (tF.g uG7)
        obtain ⟨rr7, hr7⟩ := uT7.2.2.2.1
        obtain ⟨ss7, hs7⟩ := uT7.2.2.2.2.1
        obtain ⟨ww7, hw7⟩ := uT7.2.2.2.2.2
        refine t_iast 92 r (ab_dd tk_re_readRider 46 rfl) rfl (by omega) (Nat.lt_of_le_of_lt (Nat.add_le_add_left (by decide) c) uT7.2.2.1.2.1) uT7.2.2.1.2.2.2.1 rfl (by omega) (by decide) ?_
        obtain ⟨U8, hU8⟩ : ∃ U8, U8 = pI U7 (c + 1) r (nI 0) := ⟨_, rfl⟩
        rw [← hU8]
        have uF8 : tF c S U8 := uF7.tr (by rw [hU8]; exact tF.p (by omega) (by omega))
        have uT8 : tD U8 n e4 c := by rw [hU8]; exact uT7.put (by omega) (fun z => absurd z (by omega))
        obtain ⟨rr8, hr8⟩ := uT8.2.2.2.1
        obtain ⟨ss8, hs8⟩ := uT8.2.2.2.2.1
        obtain ⟨ww8, hw8⟩ := uT8.2.2.2.2.2
        refine x_aload_n 93 0 (ab_dd tk_re_readRider 47 rfl) rfl rfl rfl ?_
        refine t_getP 96 c (ab_dd tk_re_readRider 48 rfl) rfl F_re_40 (by decide) (Nat.lt_of_lt_of_le (by decide) uT8.1.1.1) (uT8.1.1.2.1 22 (by decide)) rfl uT8.2.1 ?_
        refine x_aload_n 97 0 (ab_dd tk_re_readRider 49 rfl) rfl rfl rfl ?_
        refine t_getP 100 c (ab_dd tk_re_readRider 50 rfl) rfl F_re_40 (by decide) (Nat.lt_of_lt_of_le (by decide) uT8.1.1.1) (uT8.1.1.2.1 22 (by decide)) rfl uT8.2.1 ?_
        refine t_getI 103 (ab_dd tk_re_readRider 51 rfl) rfl F_re_135 (by omega) (Nat.lt_of_le_of_lt (Nat.le_add_right c 2) uT8.2.2.1.2.1) uT8.2.2.1.2.2.1 rfl (x_topn ww8 hw8.2 ?_)
        refine x_iload_n 104 1 (ab_dd tk_re_readRider 52 rfl) rfl rfl rfl ?_
        refine x_iconst 105 2 (ab_dd tk_re_readRider 53 rfl) rfl (by decide) (x_topn 2 rfl ?_)
        refine x_callS 108 M_s_withWarmth 1 3 [_, _, _] (ab_dd tk_re_readRider 54 rfl) rfl (by first | decide | omega) K_s_withWarmth T_s_withWarmth L_re_138 rfl (Nat.le_of_ble_eq_true rfl) (c_s_withWarmth uT8.1.2.1 (Nat.le_trans (by decide) uT8.1.1.1) ww8 r 2 (by omega) (by omega) (by omega)) (fun v1 w1 h1 => ?_)
        obtain ⟨rfl, rfl⟩ := h1
        have hm6 : mWi ww8 r 2 < 625 := by
          have hm := (mWi_ok (c := ww8) (r := r) (x := 2) (by omega) (by omega) (by omega)).2.1
          omega
        refine t_putI 111 (ab_dd tk_re_readRider 55 rfl) rfl F_re_135 (by omega) (Nat.lt_of_le_of_lt (Nat.le_add_right c 2) uT8.2.2.1.2.1) uT8.2.2.1.2.2.1 rfl rfl rfl ?_
        obtain ⟨U9, hU9⟩ : ∃ U9, U9 = pI U8 c 4 (nI (mWi ww8 r 2)) := ⟨_, rfl⟩
        rw [← hU9]
        have uF9 : tF c S U9 := uF8.tr (by rw [hU9]; exact tF.p (by omega) (by omega))
        have uT9 : tD U9 n e4 c := by rw [hU9]; exact uT8.put (by omega) (fun _ => Or.inr ⟨rfl, _, hm6, rfl⟩)
        obtain ⟨rr9, hr9⟩ := uT9.2.2.2.1
        obtain ⟨ss9, hs9⟩ := uT9.2.2.2.2.1
        obtain ⟨ww9, hw9⟩ := uT9.2.2.2.2.2
        refine x_iconst 112 0 (ab_dd tk_re_readRider 56 rfl) rfl (by decide) (x_topn 0 rfl ?_)
        refine x_istore_n 113 [some (.ref 72), some (.int (nI r)), some (.int (nI 0)), none, none] 2 (ab_dd tk_re_readRider 57 rfl) rfl rfl (by decide) rfl ?_
        exact dlp U9 _ 0 _ _ (by decide) uF9 uT9 (by
          unfold rdr
          rw [hcF, if_neg (by omega)]
          unfold xM
          rw [if_pos hk3]
          rw [hX4]
          rfl)
      · rw [hX4] at uO4
        obtain ⟨rfl, uL4, hv4⟩ := uO4
        have hg4 := xN_g uT3.1.2.2.2.2.2.2.1 hX4
        have uT4 : tL U4 tp n q4 c F r (r + 1) := uT3.g uG4 uL4
        show ab_Ex _ _ _ _ _ (.int (nI v4) :: _) _ _
        refine x_callS 68 M_s_withSeason 0 3 [_, _, _] (ab_dd tk_re_readRider 34 rfl) rfl (by first | decide | omega) K_s_withSeason T_s_withSeason L_re_126 rfl (Nat.le_of_ble_eq_true rfl) (c_s_withSeason (seaC F) r v4 (seaC_l uT4.2.2.2.1.2.2.2.2.2.2.2.2.1).1 (by omega) (by omega)) (fun v1 w1 h1 => ?_)
        obtain ⟨rfl, rfl⟩ := h1
        refine t_putI 71 (ab_dd tk_re_readRider 35 rfl) rfl F_re_123 (by omega) (Nat.lt_of_le_of_lt (Nat.le_add_right c 2) uT4.2.2.1.2.1) uT4.2.2.1.2.2.1 rfl rfl rfl ?_
        obtain ⟨U10, hU10⟩ : ∃ U10, U10 = pI U4 c 3 (nI (c4 (fun i => if i = r then v4 else d4 (seaC F) i))) := ⟨_, rfl⟩
        rw [← hU10]
        have uF10 : tF c S U10 := uF4.tr (by rw [hU10]; exact tF.p (by omega) (by omega))
        have uT10 : tL U10 tp n q4 c (up1 F (28 + r) (nI v4)) r (r + 1) := by rw [hU10]; exact uT4.sea (by omega) (by omega)
        refine x_aload_n 72 0 (ab_dd tk_re_readRider 36 rfl) rfl rfl rfl ?_
        refine x_ldcS 74 5 (ab_dd tk_re_readRider 37 rfl) rfl (by decide) (List.mem_of_getElem? (i := 5) rfl) ?_
        refine t_callV 77 M_re_needWord 6 1 [_] (ab_dd tk_re_readRider 38 rfl) rfl (by first | decide | omega) K_re_needWord V_re_needWord.1 V_re_needWord.2 L_re_69 rfl (Nat.le_of_ble_eq_true rfl) (by decide) (Nat.lt_of_lt_of_le (by decide) uT10.1.1.1) (uT10.1.1.2.1 22 (by decide)) rfl (LA_needWord uT10.1 4 5 (by decide) rfl) (fun v1 w1 h1 => ?_)
        obtain ⟨rfl, U11, rfl, uG11, uO11⟩ := h1
        have uF11 : tF c S U11 := uF10.tr (tF.g uG11)
        rcases uO11 with ⟨hk11, uL11⟩ | ⟨hk11, uD11⟩
        · have ht11 := tE_g uT10.1.2.2.2.2.2.2.1 (show tK tp n q4 ≠ 24 by omega)
          have uT11 := uT10.g uG11 uL11
          refine x_aload_n 78 0 (ab_dd tk_re_readRider 39 rfl) rfl rfl rfl ?_
          refine t_getP 81 c (ab_dd tk_re_readRider 40 rfl) rfl F_re_40 (by decide) (Nat.lt_of_lt_of_le (by decide) uT11.1.1.1) (uT11.1.1.2.1 22 (by decide)) rfl uT11.2.1 ?_
          refine t_getP 84 (c + 1) (ab_dd tk_re_readRider 41 rfl) rfl F_re_132 (by omega) (Nat.lt_of_le_of_lt (Nat.le_add_right c 2) uT11.2.2.1.2.1) uT11.2.2.1.2.2.1 rfl uT11.2.2.1.2.2.2.2.2.1 ?_
          refine x_iload_n 85 1 (ab_dd tk_re_readRider 42 rfl) rfl rfl rfl ?_
          refine x_aload_n 86 0 (ab_dd tk_re_readRider 43 rfl) rfl rfl rfl ?_
          refine x_bipush 88 9 (ab_dd tk_re_readRider 44 rfl) rfl (by decide) (x_topn 9 rfl ?_)
          refine t_callV 91 M_re_needNumber 6 1 [_] (ab_dd tk_re_readRider 45 rfl) rfl (by first | decide | omega) K_re_needNumber V_re_needNumber.1 V_re_needNumber.2 L_re_75 rfl (Nat.le_of_ble_eq_true rfl) (by decide) (Nat.lt_of_lt_of_le (by decide) uT11.1.1.1) (uT11.1.1.2.1 22 (by decide)) rfl (LA_needNumber uT11.1 9 (by decide)) (fun v1 w1 h1 => ?_)
          obtain ⟨U12, rfl, uG12, uO12⟩ := h1
          have uF12 : tF c S U12 := uF11.tr (tF.g uG12)
          rcases hX12 : xN tp n 9 (tE tp n q4) with e12 | ⟨q12, v12⟩
          · have hbs12 := (seaC_l uT11.2.2.2.1.2.2.2.2.2.2.2.2.1).1
            have hbw12 := (wC_l uT11.2.2.2.1.2.2.2.2.2.2.2.2.2).1
            rw [hX12] at uO12
            obtain ⟨uD12, rfl⟩ := uO12
            have uT12 := uT11.die (by omega) uG12 uD12
            obtain ⟨rr12, hr12⟩ := uT12.2.2.2.1
            obtain ⟨ss12, hs12⟩ := uT12.2.2.2.2.1
            obtain ⟨ww12, hw12⟩ := uT12.2.2.2.2.2
            refine t_iast 92 r (ab_dd tk_re_readRider 46 rfl) rfl (by omega) (Nat.lt_of_le_of_lt (Nat.add_le_add_left (by decide) c) uT12.2.2.1.2.1) uT12.2.2.1.2.2.2.1 rfl (by omega) (by decide) ?_
            obtain ⟨U13, hU13⟩ : ∃ U13, U13 = pI U12 (c + 1) r (nI 0) := ⟨_, rfl⟩
            rw [← hU13]
            have uF13 : tF c S U13 := uF12.tr (by rw [hU13]; exact tF.p (by omega) (by omega))
            have uT13 : tD U13 n e12 c := by rw [hU13]; exact uT12.put (by omega) (fun z => absurd z (by omega))
            obtain ⟨rr13, hr13⟩ := uT13.2.2.2.1
            obtain ⟨ss13, hs13⟩ := uT13.2.2.2.2.1
            obtain ⟨ww13, hw13⟩ := uT13.2.2.2.2.2
            refine x_aload_n 93 0 (ab_dd tk_re_readRider 47 rfl) rfl rfl rfl ?_
            refine t_getP 96 c (ab_dd tk_re_readRider 48 rfl) rfl F_re_40 (by decide) (Nat.lt_of_lt_of_le (by decide) uT13.1.1.1) (uT13.1.1.2.1 22 (by decide)) rfl uT13.2.1 ?_
            refine x_aload_n 97 0 (ab_dd tk_re_readRider 49 rfl) rfl rfl rfl ?_
            refine t_getP 100 c (ab_dd tk_re_readRider 50 rfl) rfl F_re_40 (by decide) (Nat.lt_of_lt_of_le (by decide) uT13.1.1.1) (uT13.1.1.2.1 22 (by decide)) rfl uT13.2.1 ?_
            refine t_getI 103 (ab_dd tk_re_readRider 51 rfl) rfl F_re_135 (by omega) (Nat.lt_of_le_of_lt (Nat.le_add_right c 2) uT13.2.2.1.2.1) uT13.2.2.1.2.2.1 rfl (x_topn ww13 hw13.2 ?_)
            refine x_iload_n 104 1 (ab_dd tk_re_readRider 52 rfl) rfl rfl rfl ?_
            refine x_iconst 105 2 (ab_dd tk_re_readRider 53 rfl) rfl (by decide) (x_topn 2 rfl ?_)
            refine x_callS 108 M_s_withWarmth 1 3 [_, _, _] (ab_dd tk_re_readRider 54 rfl) rfl (by first | decide | omega) K_s_withWarmth T_s_withWarmth L_re_138 rfl (Nat.le_of_ble_eq_true rfl) (c_s_withWarmth uT13.1.2.1 (Nat.le_trans (by decide) uT13.1.1.1) ww13 r 2 (by omega) (by omega) (by omega)) (fun v1 w1 h1 => ?_)
            obtain ⟨rfl, rfl⟩ := h1
            have hm6 : mWi ww13 r 2 < 625 := by
              have hm := (mWi_ok (c := ww13) (r := r) (x := 2) (by omega) (by omega) (by omega)).2.1
              omega
            refine t_putI 111 (ab_dd tk_re_readRider 55 rfl) rfl F_re_135 (by omega) (Nat.lt_of_le_of_lt (Nat.le_add_right c 2) uT13.2.2.1.2.1) uT13.2.2.1.2.2.1 rfl rfl rfl ?_
            obtain ⟨U14, hU14⟩ : ∃ U14, U14 = pI U13 c 4 (nI (mWi ww13 r 2)) := ⟨_, rfl⟩
            rw [← hU14]
            have uF14 : tF c S U14 := uF13.tr (by rw [hU14]; exact tF.p (by omega) (by omega))
            have uT14 : tD U14 n e12 c := by rw [hU14]; exact uT13.put (by omega) (fun _ => Or.inr ⟨rfl, _, hm6, rfl⟩)
            obtain ⟨rr14, hr14⟩ := uT14.2.2.2.1
            obtain ⟨ss14, hs14⟩ := uT14.2.2.2.2.1
            obtain ⟨ww14, hw14⟩ := uT14.2.2.2.2.2
            refine x_iconst 112 0 (ab_dd tk_re_readRider 56 rfl) rfl (by decide) (x_topn 0 rfl ?_)
            refine x_istore_n 113 [some (.ref 72), some (.int (nI r)), some (.int (nI 0)), none, none] 2 (ab_dd tk_re_readRider 57 rfl) rfl rfl (by decide) rfl ?_
            exact dlp U14 _ 0 _ _ (by decide) uF14 uT14 (by
              unfold rdr
              rw [hcF, if_neg (by omega)]
              unfold xM
              rw [if_pos hk3]
              rw [hX4]
              try rw [bN_r]
              rw [if_pos hk11]
              rw [hX12]
              rfl)
          · rw [hX12] at uO12
            obtain ⟨rfl, uL12, hv12⟩ := uO12
            have hg12 := xN_g uT11.1.2.2.2.2.2.2.1 hX12
            have uT12 : tL U12 tp n q12 c (up1 F (28 + r) (nI v4)) r (r + 1) := uT11.g uG12 uL12
            show ab_Ex _ _ _ _ _ (.int (nI v12) :: _) _ _
            refine t_iast 92 r (ab_dd tk_re_readRider 46 rfl) rfl (by omega) (Nat.lt_of_le_of_lt (Nat.add_le_add_left (by decide) c) uT12.2.2.1.2.1) uT12.2.2.1.2.2.2.1 rfl (by omega) (by decide) ?_
            obtain ⟨U15, hU15⟩ : ∃ U15, U15 = pI U12 (c + 1) r (nI v12) := ⟨_, rfl⟩
            rw [← hU15]
            have uF15 : tF c S U15 := uF12.tr (by rw [hU15]; exact tF.p (by omega) (by omega))
            have uT15 : tL U15 tp n q12 c (up1 (up1 F (28 + r) (nI v4)) (8 + r) (nI v12)) r (r + 1) := by rw [hU15]; exact uT12.cls (by omega)
            refine x_aload_n 93 0 (ab_dd tk_re_readRider 47 rfl) rfl rfl rfl ?_
            refine t_getP 96 c (ab_dd tk_re_readRider 48 rfl) rfl F_re_40 (by decide) (Nat.lt_of_lt_of_le (by decide) uT15.1.1.1) (uT15.1.1.2.1 22 (by decide)) rfl uT15.2.1 ?_
            refine x_aload_n 97 0 (ab_dd tk_re_readRider 49 rfl) rfl rfl rfl ?_
            refine t_getP 100 c (ab_dd tk_re_readRider 50 rfl) rfl F_re_40 (by decide) (Nat.lt_of_lt_of_le (by decide) uT15.1.1.1) (uT15.1.1.2.1 22 (by decide)) rfl uT15.2.1 ?_
            refine t_getI 103 (ab_dd tk_re_readRider 51 rfl) rfl F_re_135 (by omega) (Nat.lt_of_le_of_lt (Nat.le_add_right c 2) uT15.2.2.1.2.1) uT15.2.2.1.2.2.1 rfl (x_topn (wC (up1 (up1 F (28 + r) (nI v4)) (8 + r) (nI v12))) uT15.2.2.2.1.2.2.2.1 ?_)
            refine x_iload_n 104 1 (ab_dd tk_re_readRider 52 rfl) rfl rfl rfl ?_
            refine x_iconst 105 2 (ab_dd tk_re_readRider 53 rfl) rfl (by decide) (x_topn 2 rfl ?_)
            refine x_callS 108 M_s_withWarmth 1 3 [_, _, _] (ab_dd tk_re_readRider 54 rfl) rfl (by first | decide | omega) K_s_withWarmth T_s_withWarmth L_re_138 rfl (Nat.le_of_ble_eq_true rfl) (c_s_withWarmth uT15.1.2.1 (Nat.le_trans (by decide) uT15.1.1.1) (wC (up1 (up1 F (28 + r) (nI v4)) (8 + r) (nI v12))) r 2 (wC_l uT15.2.2.2.1.2.2.2.2.2.2.2.2.2).1 (by omega) (by omega)) (fun v1 w1 h1 => ?_)
            obtain ⟨rfl, rfl⟩ := h1
            refine t_putI 111 (ab_dd tk_re_readRider 55 rfl) rfl F_re_135 (by omega) (Nat.lt_of_le_of_lt (Nat.le_add_right c 2) uT15.2.2.1.2.1) uT15.2.2.1.2.2.1 rfl rfl rfl ?_
            obtain ⟨U16, hU16⟩ : ∃ U16, U16 = pI U15 c 4 (nI (mWi (wC (up1 (up1 F (28 + r) (nI v4)) (8 + r) (nI v12))) r 2)) := ⟨_, rfl⟩
            rw [← hU16]
            have uF16 : tF c S U16 := uF15.tr (by rw [hU16]; exact tF.p (by omega) (by omega))
            have uT16 : tL U16 tp n q12 c (up1 (up1 (up1 F (28 + r) (nI v4)) (8 + r) (nI v12)) (32 + r) (nI 2)) r (r + 1) := by rw [hU16]; exact uT15.wrm (by omega) (by omega)
            replace uT16 := uT16.oth (j := 36 + r) (x := nI r) (by omega) (by omega)
            refine x_iconst 112 0 (ab_dd tk_re_readRider 56 rfl) rfl (by decide) (x_topn 0 rfl ?_)
            refine x_istore_n 113 [some (.ref 72), some (.int (nI r)), some (.int (nI 0)), none, none] 2 (ab_dd tk_re_readRider 57 rfl) rfl rfl (by decide) rfl ?_
            exact lp (by omega) 1000 U16 _ 0 _ _ _ uF16 uT16 (by omega) (by omega) (by
              unfold rdr
              rw [hcF, if_neg (by omega)]
              unfold xM
              rw [if_pos hk3]
              rw [hX4]
              try rw [bN_r]
              rw [if_pos hk11]
              rw [hX12]
              try rw [bN_r]
              try rfl)
        · have uT11 := uT10.die (by omega) uG11 uD11
          obtain ⟨rr11, hr11⟩ := uT11.2.2.2.1
          obtain ⟨ss11, hs11⟩ := uT11.2.2.2.2.1
          obtain ⟨ww11, hw11⟩ := uT11.2.2.2.2.2
          refine x_aload_n 78 0 (ab_dd tk_re_readRider 39 rfl) rfl rfl rfl ?_
          refine t_getP 81 c (ab_dd tk_re_readRider 40 rfl) rfl F_re_40 (by decide) (Nat.lt_of_lt_of_le (by decide) uT11.1.1.1) (uT11.1.1.2.1 22 (by decide)) rfl uT11.2.1 ?_
          refine t_getP 84 (c + 1) (ab_dd tk_re_readRider 41 rfl) rfl F_re_132 (by omega) (Nat.lt_of_le_of_lt (Nat.le_add_right c 2) uT11.2.2.1.2.1) uT11.2.2.1.2.2.1 rfl uT11.2.2.1.2.2.2.2.2.1 ?_
          refine x_iload_n 85 1 (ab_dd tk_re_readRider 42 rfl) rfl rfl rfl ?_
          refine x_aload_n 86 0 (ab_dd tk_re_readRider 43 rfl) rfl rfl rfl ?_
          refine x_bipush 88 9 (ab_dd tk_re_readRider 44 rfl) rfl (by decide) (x_topn 9 rfl ?_)
          refine t_callV 91 M_re_needNumber 6 1 [_] (ab_dd tk_re_readRider 45 rfl) rfl (by first | decide | omega) K_re_needNumber V_re_needNumber.1 V_re_needNumber.2 L_re_75 rfl (Nat.le_of_ble_eq_true rfl) (by decide) (Nat.lt_of_lt_of_le (by decide) uT11.1.1.1) (uT11.1.1.2.1 22 (by decide)) rfl (DA_needNumber uT11.1 _) (fun v1 w1 h1 => ?_)
          obtain ⟨rfl, U17, rfl, uG17, uD17⟩ := h1
          have uT17 : tD U17 n (pE tp n q4 2) c := uT11.g uG17 uD17
          have uF17 : tF c S U17 := uF11.tr (tF.g uG17)
          obtain ⟨rr17, hr17⟩ := uT17.2.2.2.1
          obtain ⟨ss17, hs17⟩ := uT17.2.2.2.2.1
          obtain ⟨ww17, hw17⟩ := uT17.2.2.2.2.2
          refine t_iast 92 r (ab_dd tk_re_readRider 46 rfl) rfl (by omega) (Nat.lt_of_le_of_lt (Nat.add_le_add_left (by decide) c) uT17.2.2.1.2.1) uT17.2.2.1.2.2.2.1 rfl (by omega) (by decide) ?_
          obtain ⟨U18, hU18⟩ : ∃ U18, U18 = pI U17 (c + 1) r (nI 0) := ⟨_, rfl⟩
          rw [← hU18]
          have uF18 : tF c S U18 := uF17.tr (by rw [hU18]; exact tF.p (by omega) (by omega))
          have uT18 : tD U18 n (pE tp n q4 2) c := by rw [hU18]; exact uT17.put (by omega) (fun z => absurd z (by omega))
          obtain ⟨rr18, hr18⟩ := uT18.2.2.2.1
          obtain ⟨ss18, hs18⟩ := uT18.2.2.2.2.1
          obtain ⟨ww18, hw18⟩ := uT18.2.2.2.2.2
          refine x_aload_n 93 0 (ab_dd tk_re_readRider 47 rfl) rfl rfl rfl ?_
          refine t_getP 96 c (ab_dd tk_re_readRider 48 rfl) rfl F_re_40 (by decide) (Nat.lt_of_lt_of_le (by decide) uT18.1.1.1) (uT18.1.1.2.1 22 (by decide)) rfl uT18.2.1 ?_
          refine x_aload_n 97 0 (ab_dd tk_re_readRider 49 rfl) rfl rfl rfl ?_
          refine t_getP 100 c (ab_dd tk_re_readRider 50 rfl) rfl F_re_40 (by decide) (Nat.lt_of_lt_of_le (by decide) uT18.1.1.1) (uT18.1.1.2.1 22 (by decide)) rfl uT18.2.1 ?_
          refine t_getI 103 (ab_dd tk_re_readRider 51 rfl) rfl F_re_135 (by omega) (Nat.lt_of_le_of_lt (Nat.le_add_right c 2) uT18.2.2.1.2.1) uT18.2.2.1.2.2.1 rfl (x_topn ww18 hw18.2 ?_)
          refine x_iload_n 104 1 (ab_dd tk_re_readRider 52 rfl) rfl rfl rfl ?_
          refine x_iconst 105 2 (ab_dd tk_re_readRider 53 rfl) rfl (by decide) (x_topn 2 rfl ?_)
          refine x_callS 108 M_s_withWarmth 1 3 [_, _, _] (ab_dd tk_re_readRider 54 rfl) rfl (by first | decide | omega) K_s_withWarmth T_s_withWarmth L_re_138 rfl (Nat.le_of_ble_eq_true rfl) (c_s_withWarmth uT18.1.2.1 (Nat.le_trans (by decide) uT18.1.1.1) ww18 r 2 (by omega) (by omega) (by omega)) (fun v1 w1 h1 => ?_)
          obtain ⟨rfl, rfl⟩ := h1
          have hm6 : mWi ww18 r 2 < 625 := by
            have hm := (mWi_ok (c := ww18) (r := r) (x := 2) (by omega) (by omega) (by omega)).2.1
            omega
          refine t_putI 111 (ab_dd tk_re_readRider 55 rfl) rfl F_re_135 (by omega) (Nat.lt_of_le_of_lt (Nat.le_add_right c 2) uT18.2.2.1.2.1) uT18.2.2.1.2.2.1 rfl rfl rfl ?_
          obtain ⟨U19, hU19⟩ : ∃ U19, U19 = pI U18 c 4 (nI (mWi ww18 r 2)) := ⟨_, rfl⟩
          rw [← hU19]
          have uF19 : tF c S U19 := uF18.tr (by rw [hU19]; exact tF.p (by omega) (by omega))
          have uT19 : tD U19 n (pE tp n q4 2) c := by rw [hU19]; exact uT18.put (by omega) (fun _ => Or.inr ⟨rfl, _, hm6, rfl⟩)
          obtain ⟨rr19, hr19⟩ := uT19.2.2.2.1
          obtain ⟨ss19, hs19⟩ := uT19.2.2.2.2.1
          obtain ⟨ww19, hw19⟩ := uT19.2.2.2.2.2
          refine x_iconst 112 0 (ab_dd tk_re_readRider 56 rfl) rfl (by decide) (x_topn 0 rfl ?_)
          refine x_istore_n 113 [some (.ref 72), some (.int (nI r)), some (.int (nI 0)), none, none] 2 (ab_dd tk_re_readRider 57 rfl) rfl rfl (by decide) rfl ?_
          exact dlp U19 _ 0 _ _ (by decide) uF19 uT19 (by
            unfold rdr
            rw [hcF, if_neg (by omega)]
            unfold xM
            rw [if_pos hk3]
            rw [hX4]
            try rw [bN_r]
            rw [if_neg hk11]
            rfl)
    · have uT3 := uT2.die (by omega) uG3 uD3
      obtain ⟨rr3, hr3⟩ := uT3.2.2.2.1
      obtain ⟨ss3, hs3⟩ := uT3.2.2.2.2.1
      obtain ⟨ww3, hw3⟩ := uT3.2.2.2.2.2
      refine x_aload_n 49 0 (ab_dd tk_re_readRider 25 rfl) rfl rfl rfl ?_
      refine t_getP 52 c (ab_dd tk_re_readRider 26 rfl) rfl F_re_40 (by decide) (Nat.lt_of_lt_of_le (by decide) uT3.1.1.1) (uT3.1.1.2.1 22 (by decide)) rfl uT3.2.1 ?_
      refine x_aload_n 53 0 (ab_dd tk_re_readRider 27 rfl) rfl rfl rfl ?_
      refine t_getP 56 c (ab_dd tk_re_readRider 28 rfl) rfl F_re_40 (by decide) (Nat.lt_of_lt_of_le (by decide) uT3.1.1.1) (uT3.1.1.2.1 22 (by decide)) rfl uT3.2.1 ?_
      refine t_getI 59 (ab_dd tk_re_readRider 29 rfl) rfl F_re_123 (by omega) (Nat.lt_of_le_of_lt (Nat.le_add_right c 2) uT3.2.2.1.2.1) uT3.2.2.1.2.2.1 rfl (x_topn ss3 hs3.2 ?_)
      refine x_iload_n 60 1 (ab_dd tk_re_readRider 30 rfl) rfl rfl rfl ?_
      refine x_aload_n 61 0 (ab_dd tk_re_readRider 31 rfl) rfl rfl rfl ?_
      refine x_iconst 62 3 (ab_dd tk_re_readRider 32 rfl) rfl (by decide) (x_topn 3 rfl ?_)
      refine t_callV 65 M_re_needNumber 6 1 [_] (ab_dd tk_re_readRider 33 rfl) rfl (by first | decide | omega) K_re_needNumber V_re_needNumber.1 V_re_needNumber.2 L_re_75 rfl (Nat.le_of_ble_eq_true rfl) (by decide) (Nat.lt_of_lt_of_le (by decide) uT3.1.1.1) (uT3.1.1.2.1 22 (by decide)) rfl (DA_needNumber uT3.1 _) (fun v1 w1 h1 => ?_)
      obtain ⟨rfl, U20, rfl, uG20, uD20⟩ := h1
      have uT20 : tD U20 n (pE tp n (tE tp n p) 2) c := uT3.g uG20 uD20
      have uF20 : tF c S U20 := uF3.tr (tF.g uG20)
      obtain ⟨rr20, hr20⟩ := uT20.2.2.2.1
      obtain ⟨ss20, hs20⟩ := uT20.2.2.2.2.1
      obtain ⟨ww20, hw20⟩ := uT20.2.2.2.2.2
      refine x_callS 68 M_s_withSeason 0 3 [_, _, _] (ab_dd tk_re_readRider 34 rfl) rfl (by first | decide | omega) K_s_withSeason T_s_withSeason L_re_126 rfl (Nat.le_of_ble_eq_true rfl) (c_s_withSeason ss3 r 0 (by omega) (by omega) (by omega)) (fun v1 w1 h1 => ?_)
      obtain ⟨rfl, rfl⟩ := h1
      have hc4 : c4 (fun i => if i = r then 0 else d4 ss3 i) < 256 := c4_lt (fun i _ => by have := d4_lt ss3 i; split <;> omega)
      refine t_putI 71 (ab_dd tk_re_readRider 35 rfl) rfl F_re_123 (by omega) (Nat.lt_of_le_of_lt (Nat.le_add_right c 2) uT20.2.2.1.2.1) uT20.2.2.1.2.2.1 rfl rfl rfl ?_
      obtain ⟨U21, hU21⟩ : ∃ U21, U21 = pI U20 c 3 (nI (c4 (fun i => if i = r then 0 else d4 ss3 i))) := ⟨_, rfl⟩
      rw [← hU21]
      have uF21 : tF c S U21 := uF20.tr (by rw [hU21]; exact tF.p (by omega) (by omega))
      have uT21 : tD U21 n (pE tp n (tE tp n p) 2) c := by rw [hU21]; exact uT20.put (by omega) (fun _ => Or.inl ⟨rfl, _, hc4, rfl⟩)
      obtain ⟨rr21, hr21⟩ := uT21.2.2.2.1
      obtain ⟨ss21, hs21⟩ := uT21.2.2.2.2.1
      obtain ⟨ww21, hw21⟩ := uT21.2.2.2.2.2
      refine x_aload_n 72 0 (ab_dd tk_re_readRider 36 rfl) rfl rfl rfl ?_
      refine x_ldcS 74 5 (ab_dd tk_re_readRider 37 rfl) rfl (by decide) (List.mem_of_getElem? (i := 5) rfl) ?_
      refine t_callV 77 M_re_needWord 6 1 [_] (ab_dd tk_re_readRider 38 rfl) rfl (by first | decide | omega) K_re_needWord V_re_needWord.1 V_re_needWord.2 L_re_69 rfl (Nat.le_of_ble_eq_true rfl) (by decide) (Nat.lt_of_lt_of_le (by decide) uT21.1.1.1) (uT21.1.1.2.1 22 (by decide)) rfl (DA_needWord uT21.1 _) (fun v1 w1 h1 => ?_)
      obtain ⟨rfl, U22, rfl, uG22, uD22⟩ := h1
      have uT22 : tD U22 n (pE tp n (tE tp n p) 2) c := uT21.g uG22 uD22
      have uF22 : tF c S U22 := uF21.tr (tF.g uG22)
      obtain ⟨rr22, hr22⟩ := uT22.2.2.2.1
      obtain ⟨ss22, hs22⟩ := uT22.2.2.2.2.1
      obtain ⟨ww22, hw22⟩ := uT22.2.2.2.2.2
      refine x_aload_n 78 0 (ab_dd tk_re_readRider 39 rfl) rfl rfl rfl ?_
      refine t_getP 81 c (ab_dd tk_re_readRider 40 rfl) rfl F_re_40 (by decide) (Nat.lt_of_lt_of_le (by decide) uT22.1.1.1) (uT22.1.1.2.1 22 (by decide)) rfl uT22.2.1 ?_
      refine t_getP 84 (c + 1) (ab_dd tk_re_readRider 41 rfl) rfl F_re_132 (by omega) (Nat.lt_of_le_of_lt (Nat.le_add_right c 2) uT22.2.2.1.2.1) uT22.2.2.1.2.2.1 rfl uT22.2.2.1.2.2.2.2.2.1 ?_
      refine x_iload_n 85 1 (ab_dd tk_re_readRider 42 rfl) rfl rfl rfl ?_
      refine x_aload_n 86 0 (ab_dd tk_re_readRider 43 rfl) rfl rfl rfl ?_
      refine x_bipush 88 9 (ab_dd tk_re_readRider 44 rfl) rfl (by decide) (x_topn 9 rfl ?_)
      refine t_callV 91 M_re_needNumber 6 1 [_] (ab_dd tk_re_readRider 45 rfl) rfl (by first | decide | omega) K_re_needNumber V_re_needNumber.1 V_re_needNumber.2 L_re_75 rfl (Nat.le_of_ble_eq_true rfl) (by decide) (Nat.lt_of_lt_of_le (by decide) uT22.1.1.1) (uT22.1.1.2.1 22 (by decide)) rfl (DA_needNumber uT22.1 _) (fun v1 w1 h1 => ?_)
      obtain ⟨rfl, U23, rfl, uG23, uD23⟩ := h1
      have uT23 : tD U23 n (pE tp n (tE tp n p) 2) c := uT22.g uG23 uD23
      have uF23 : tF c S U23 := uF22.tr (tF.g uG23)
      obtain ⟨rr23, hr23⟩ := uT23.2.2.2.1
      obtain ⟨ss23, hs23⟩ := uT23.2.2.2.2.1
      obtain ⟨ww23, hw23⟩ := uT23.2.2.2.2.2
      refine t_iast 92 r (ab_dd tk_re_readRider 46 rfl) rfl (by omega) (Nat.lt_of_le_of_lt (Nat.add_le_add_left (by decide) c) uT23.2.2.1.2.1) uT23.2.2.1.2.2.2.1 rfl (by omega) (by decide) ?_
      obtain ⟨U24, hU24⟩ : ∃ U24, U24 = pI U23 (c + 1) r (nI 0) := ⟨_, rfl⟩
      rw [← hU24]
      have uF24 : tF c S U24 := uF23.tr (by rw [hU24]; exact tF.p (by omega) (by omega))
      have uT24 : tD U24 n (pE tp n (tE tp n p) 2) c := by rw [hU24]; exact uT23.put (by omega) (fun z => absurd z (by omega))
      obtain ⟨rr24, hr24⟩ := uT24.2.2.2.1
      obtain ⟨ss24, hs24⟩ := uT24.2.2.2.2.1
      obtain ⟨ww24, hw24⟩ := uT24.2.2.2.2.2
      refine x_aload_n 93 0 (ab_dd tk_re_readRider 47 rfl) rfl rfl rfl ?_
      refine t_getP 96 c (ab_dd tk_re_readRider 48 rfl) rfl F_re_40 (by decide) (Nat.lt_of_lt_of_le (by decide) uT24.1.1.1) (uT24.1.1.2.1 22 (by decide)) rfl uT24.2.1 ?_
      refine x_aload_n 97 0 (ab_dd tk_re_readRider 49 rfl) rfl rfl rfl ?_
      refine t_getP 100 c (ab_dd tk_re_readRider 50 rfl) rfl F_re_40 (by decide) (Nat.lt_of_lt_of_le (by decide) uT24.1.1.1) (uT24.1.1.2.1 22 (by decide)) rfl uT24.2.1 ?_
      refine t_getI 103 (ab_dd tk_re_readRider 51 rfl) rfl F_re_135 (by omega) (Nat.lt_of_le_of_lt (Nat.le_add_right c 2) uT24.2.2.1.2.1) uT24.2.2.1.2.2.1 rfl (x_topn ww24 hw24.2 ?_)
      refine x_iload_n 104 1 (ab_dd tk_re_readRider 52 rfl) rfl rfl rfl ?_
      refine x_iconst 105 2 (ab_dd tk_re_readRider 53 rfl) rfl (by decide) (x_topn 2 rfl ?_)
      refine x_callS 108 M_s_withWarmth 1 3 [_, _, _] (ab_dd tk_re_readRider 54 rfl) rfl (by first | decide | omega) K_s_withWarmth T_s_withWarmth L_re_138 rfl (Nat.le_of_ble_eq_true rfl) (c_s_withWarmth uT24.1.2.1 (Nat.le_trans (by decide) uT24.1.1.1) ww24 r 2 (by omega) (by omega) (by omega)) (fun v1 w1 h1 => ?_)
      obtain ⟨rfl, rfl⟩ := h1
      have hm6 : mWi ww24 r 2 < 625 := by
        have hm := (mWi_ok (c := ww24) (r := r) (x := 2) (by omega) (by omega) (by omega)).2.1
        omega
      refine t_putI 111 (ab_dd tk_re_readRider 55 rfl) rfl F_re_135 (by omega) (Nat.lt_of_le_of_lt (Nat.le_add_right c 2) uT24.2.2.1.2.1) uT24.2.2.1.2.2.1 rfl rfl rfl ?_
      obtain ⟨U25, hU25⟩ : ∃ U25, U25 = pI U24 c 4 (nI (mWi ww24 r 2)) := ⟨_, rfl⟩
      rw [← hU25]
      have uF25 : tF c S U25 := uF24.tr (by rw [hU25]; exact tF.p (by omega) (by omega))
      have uT25 : tD U25 n (pE tp n (tE tp n p) 2) c := by rw [hU25]; exact uT24.put (by omega) (fun _ => Or.inr ⟨rfl, _, hm6, rfl⟩)
      obtain ⟨rr25, hr25⟩ := uT25.2.2.2.1
      obtain ⟨ss25, hs25⟩ := uT25.2.2.2.2.1
      obtain ⟨ww25, hw25⟩ := uT25.2.2.2.2.2
      refine x_iconst 112 0 (ab_dd tk_re_readRider 56 rfl) rfl (by decide) (x_topn 0 rfl ?_)
      refine x_istore_n 113 [some (.ref 72), some (.int (nI r)), some (.int (nI 0)), none, none] 2 (ab_dd tk_re_readRider 57 rfl) rfl rfl (by decide) rfl ?_
      exact dlp U25 _ 0 _ _ (by decide) uF25 uT25 (by
        unfold rdr
        rw [hcF, if_neg (by omega)]
        unfold xM
        rw [if_neg hk3]
        rfl)
  · refine x_aload_n 12 0 (ab_dd tk_re_readRider 5 rfl) rfl rfl rfl ?_
    refine x_iconst 13 4 (ab_dd tk_re_readRider 6 rfl) rfl (by decide) (x_topn 4 rfl ?_)
    refine t_callV 16 M_re_refuse 0 1 [_] (ab_dd tk_re_readRider 7 rfl) rfl (by first | decide | omega) K_re_refuse V_re_refuse.1 V_re_refuse.2 L_re_114 rfl (Nat.le_of_ble_eq_true rfl) (by decide) (Nat.lt_of_lt_of_le (by decide) uT0.1.1.1) (uT0.1.1.2.1 22 (by decide)) rfl (LA_refuse uT0.1 4 (by decide) (by decide)) (fun v1 w1 h1 => ?_)
    obtain ⟨rfl, U26, rfl, uG26, uD26⟩ := h1
    have uT26 := uT0.die (by omega) uG26 uD26
    have uF26 : tF c S U26 := uF0.tr (tF.g uG26)
    have hsp : rdr tp n p F = .inl (pE tp n p 4) := by
      unfold rdr
      rw [hcF, if_pos (by omega)]
    exact x_vret (ab_dd tk_re_readRider 8 rfl) ⟨rfl, _, rfl, uF26, by rw [hsp]; exact uT26⟩
