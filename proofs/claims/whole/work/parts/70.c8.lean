theorem spM_V {a : Nat → Int32} {n : Nat} {cd : Nat → Int32} (hml : mMl (rwS a) = some (n, cd)) {R w q r s : Nat} (hw : w < 625) : (spM (mMl (rwS a)) (mSea (rwS a)) (mCls (rwS a)) (a 40) (cSt R w q) r (nI s) = true) ↔ mV1 a r (mWa w r) s = 1 := by
  unfold spM mV1
  rw [hml, cSt_wa hw]
  dsimp only
  rw [decide_eq_true_iff]
  split
  · exact ⟨fun _ => rfl, fun _ => ‹_›⟩
  · exact ⟨fun z => absurd z ‹_›, fun z => absurd z (by decide)⟩
def tb_cl_whyNot : List (Nat × Instr × Nat) := [(0, .iload_n 1, 1), (1, .ifCond .ne 5, 3), (4, .iconst 0, 1), (5, .ireturn, 1), (6, .iload_n 1, 1), (7, .ifCond .lt 19, 3), (10, .iload_n 1, 1), (11, .iconst 4, 1), (12, .if_icmp .ge 14, 3), (15, .iload_n 1, 1), (16, .aload_n 0, 1), (17, .getfield 12, 3), (20, .getfield 60, 3), (23, .if_icmp .lt 5, 3), (26, .iconst 1, 1), (27, .ireturn, 1), (28, .aload_n 0, 1), (29, .getfield 12, 3), (32, .getfield 66, 3), (35, .ifnonnull 5, 3), (38, .iconst 0, 1), (39, .ireturn, 1), (40, .aload_n 0, 1), (41, .getfield 47, 3), (44, .iload_n 3, 1), (45, .iload_n 1, 1), (46, .iconst 1, 1), (47, .isub, 1), (48, .invokevirtual 69, 3), (51, .istore 4, 2), (53, .aload_n 0, 1), (54, .getfield 47, 3), (57, .iload_n 3, 1), (58, .iload_n 1, 1), (59, .invokevirtual 69, 3), (62, .istore 5, 2), (64, .aload_n 0, 1), (65, .iload 4, 2), (67, .iload_n 2, 1), (68, .iload 4, 2), (70, .invokestatic 75, 3), (73, .iload_n 1, 1), (74, .invokevirtual 78, 3), (77, .ifCond .eq 25, 3), (80, .aload_n 0, 1), (81, .iload 5, 2), (83, .iload_n 2, 1), (84, .iload 5, 2), (86, .invokestatic 75, 3), (89, .iload_n 1, 1), (90, .iconst 1, 1), (91, .isub, 1), (92, .invokevirtual 78, 3), (95, .ifCond .eq 7, 3), (98, .iconst 1, 1), (99, .goto 4, 3), (102, .iconst 0, 1), (103, .istore 6, 2), (105, .iload 6, 2), (107, .ifCond .eq 7, 3), (110, .iconst 0, 1), (111, .goto 4, 3), (114, .iconst 2, 1), (115, .ireturn, 1)]
theorem tk_cl_whyNot : ∀ q ∈ tb_cl_whyNot, decode M_cl_whyNot.2.1 q.1 = .ok q.2 := by decide +kernel
theorem c_cl_whyNot {G : ab_G} {S : ab_S} {im : Nat → Prop} {x c bh nb st : Nat} {a : Nat → Int32} (hK : clK S x) (him : imO im) (hcl : clI S im x c a bh nb st) (hx : xSh S) (hse : seOk S) (kc : kSh S.1) (ha : aGood a) (d w q : Nat) (hd : d < 2 ^ 31) (hw : w < 625) (hq : q < kFc (aR a)) : ab_C G 3 M_cl_whyNot [.ref x, .int (nI d), .int (nI w), .int (nI q)] (sw S) (fun v w' => v = some (.int (nI (aY a (a 40) (cSt (aR a) w q) d))) ∧ ∃ S', w' = sw S' ∧ sEq [x + 6, x + 8, x + 9] S S' ∧ clI S' im x c a bh nb st) := by
  refine x_enter [some (.ref x), some (.int (nI d)), some (.int (nI w)), some (.int (nI q)), none, none, none] (by decide) (Nat.le_of_ble_eq_true rfl) rfl (fun v w' h => by obtain ⟨rfl, -⟩ := h; rfl) ?_
  have g := hcl
  obtain ⟨a1, a2, a3, a4, a5, a6, a7, a8, a9, a10, a11, a12, b1, b2, b3⟩ := g
  have hxx := hK.1
  have g1 := a1
  obtain ⟨hk, c1, c2, c3, c4, c5, c6, c7⟩ := g1
  have hci := him c hk.2.2.2.2.2.2.2.1
  have hci1 := him (c + 1) hk.2.2.2.2.2.2.2.2.1
  have hci2 := him (c + 2) hk.2.2.2.2.2.2.2.2.2
  have hnim : ∀ k, k ≤ 9 → ¬ im (x + k) := fun k hk z => by have := him _ z; omega
  have hR := ha.1.R.2
  have hq24 := Nat.lt_of_lt_of_le hq (kFc_le (aR a))
  have hB := qB1_ok hR hq
  have h50 : 50 ≤ sn S := Nat.le_trans (by decide) hx.1
  have haY : aY a (a 40) (cSt (aR a) w q) d = if d = 0 then 0 else if aR a ≤ d then 1 else if spM (mMl (rwS a)) (mSea (rwS a)) (mCls (rwS a)) (a 40) (cSt (aR a) w q) (mSit (aR a) (cSt (aR a) w q) (d - 1)) (nI d) = true ∧ spM (mMl (rwS a)) (mSea (rwS a)) (mCls (rwS a)) (a 40) (cSt (aR a) w q) (mSit (aR a) (cSt (aR a) w q) d) (nI (d - 1)) = true then 0 else 2 := rfl
  rw [haY]
  rcases hml : mMl (rwS a) with _ | ⟨n, cd⟩
  · have c6n : sP S c 8 = none := by rw [hml] at c6; exact c6
    refine x_iload_n 1 1 (ab_dd tk_cl_whyNot 0 rfl) rfl rfl rfl ?_
    refine xn_if_ne 4 6 (ab_dd tk_cl_whyNot 1 rfl) rfl (by decide) (by omega) (fun h1 => ?_) (fun h1 => ?_)
    · refine x_iload_n 7 1 (ab_dd tk_cl_whyNot 4 rfl) rfl rfl rfl ?_
      refine xn_if_lt 10 26 (ab_dd tk_cl_whyNot 5 rfl) rfl (by decide) (by omega) ?_
      refine x_iload_n 11 1 (ab_dd tk_cl_whyNot 6 rfl) rfl rfl rfl ?_
      refine x_iconst 12 4 (ab_dd tk_cl_whyNot 7 rfl) rfl (by decide) (x_topn 4 rfl ?_)
      refine xn_icmp_ge 15 26 (ab_dd tk_cl_whyNot 8 rfl) rfl (by decide) (by omega) (by omega) (fun h12 => ?_) (fun h12 => ?_)
      · refine x_iconst 27 1 (ab_dd tk_cl_whyNot 14 rfl) rfl (by decide) (x_topn 1 rfl ?_)
        exact x_iret (ab_dd tk_cl_whyNot 15 rfl) ⟨rI (congrArg nI (by rw [if_neg (by omega), if_pos (by omega)])), S, rfl, sEq.rf, hcl⟩
      · refine x_iload_n 16 1 (ab_dd tk_cl_whyNot 9 rfl) rfl rfl rfl ?_
        refine x_aload_n 17 0 (ab_dd tk_cl_whyNot 10 rfl) rfl rfl rfl ?_
        refine t_getP 20 c (ab_dd tk_cl_whyNot 11 rfl) rfl F_cl_12 (by rcases hK.1 with z | z <;> omega) (Nat.lt_of_le_of_lt (Nat.le_add_right x 9) hK.2.1) hK.2.2.1 rfl a2 ?_
        refine t_getI 23 (ab_dd tk_cl_whyNot 12 rfl) rfl F_cl_60 hk.1 (Nat.lt_of_le_of_lt (Nat.le_add_right c 2) hk.2.1) hk.2.2.1 rfl (x_topn (aR a) c1 ?_)
        refine xn_icmp_lt 26 28 (ab_dd tk_cl_whyNot 13 rfl) rfl (by decide) (by omega) (by omega) (fun h23 => ?_) (fun h23 => ?_)
        · refine x_aload_n 29 0 (ab_dd tk_cl_whyNot 16 rfl) rfl rfl rfl ?_
          refine t_getP 32 c (ab_dd tk_cl_whyNot 17 rfl) rfl F_cl_12 (by rcases hK.1 with z | z <;> omega) (Nat.lt_of_le_of_lt (Nat.le_add_right x 9) hK.2.1) hK.2.2.1 rfl a2 ?_
          refine t_getN 35 (ab_dd tk_cl_whyNot 18 rfl) rfl F_cl_66 hk.1 (Nat.lt_of_le_of_lt (Nat.le_add_right c 2) hk.2.1) hk.2.2.1 rfl c6n ?_
          refine x_ifnonnull_f 38 (ab_dd tk_cl_whyNot 19 rfl) rfl ?_
          refine x_iconst 39 0 (ab_dd tk_cl_whyNot 20 rfl) rfl (by decide) (x_topn 0 rfl ?_)
          exact x_iret (ab_dd tk_cl_whyNot 21 rfl) ⟨rI (congrArg nI (by rw [if_neg (by omega), if_neg (by omega)]; unfold spM; rw [if_pos ⟨rfl, rfl⟩])), S, rfl, sEq.rf, hcl⟩
        · refine x_iconst 27 1 (ab_dd tk_cl_whyNot 14 rfl) rfl (by decide) (x_topn 1 rfl ?_)
          exact x_iret (ab_dd tk_cl_whyNot 15 rfl) ⟨rI (congrArg nI (by rw [if_neg (by omega), if_pos (by omega)])), S, rfl, sEq.rf, hcl⟩
    · refine x_iconst 5 0 (ab_dd tk_cl_whyNot 2 rfl) rfl (by decide) (x_topn 0 rfl ?_)
      exact x_iret (ab_dd tk_cl_whyNot 3 rfl) ⟨rI (congrArg nI (if_pos h1).symm), S, rfl, sEq.rf, hcl⟩
  · have c6s := c6
    rw [hml] at c6s
    obtain ⟨lb, l1, -⟩ := c6s
    refine x_iload_n 1 1 (ab_dd tk_cl_whyNot 0 rfl) rfl rfl rfl ?_
    refine xn_if_ne 4 6 (ab_dd tk_cl_whyNot 1 rfl) rfl (by decide) (by omega) (fun h1 => ?_) (fun h1 => ?_)
    · refine x_iload_n 7 1 (ab_dd tk_cl_whyNot 4 rfl) rfl rfl rfl ?_
      refine xn_if_lt 10 26 (ab_dd tk_cl_whyNot 5 rfl) rfl (by decide) (by omega) ?_
      refine x_iload_n 11 1 (ab_dd tk_cl_whyNot 6 rfl) rfl rfl rfl ?_
      refine x_iconst 12 4 (ab_dd tk_cl_whyNot 7 rfl) rfl (by decide) (x_topn 4 rfl ?_)
      refine xn_icmp_ge 15 26 (ab_dd tk_cl_whyNot 8 rfl) rfl (by decide) (by omega) (by omega) (fun h12 => ?_) (fun h12 => ?_)
      · refine x_iconst 27 1 (ab_dd tk_cl_whyNot 14 rfl) rfl (by decide) (x_topn 1 rfl ?_)
        exact x_iret (ab_dd tk_cl_whyNot 15 rfl) ⟨rI (congrArg nI (by rw [if_neg (by omega), if_pos (by omega)])), S, rfl, sEq.rf, hcl⟩
      · refine x_iload_n 16 1 (ab_dd tk_cl_whyNot 9 rfl) rfl rfl rfl ?_
        refine x_aload_n 17 0 (ab_dd tk_cl_whyNot 10 rfl) rfl rfl rfl ?_
        refine t_getP 20 c (ab_dd tk_cl_whyNot 11 rfl) rfl F_cl_12 (by rcases hK.1 with z | z <;> omega) (Nat.lt_of_le_of_lt (Nat.le_add_right x 9) hK.2.1) hK.2.2.1 rfl a2 ?_
        refine t_getI 23 (ab_dd tk_cl_whyNot 12 rfl) rfl F_cl_60 hk.1 (Nat.lt_of_le_of_lt (Nat.le_add_right c 2) hk.2.1) hk.2.2.1 rfl (x_topn (aR a) c1 ?_)
        refine xn_icmp_lt 26 28 (ab_dd tk_cl_whyNot 13 rfl) rfl (by decide) (by omega) (by omega) (fun h23 => ?_) (fun h23 => ?_)
        · refine x_aload_n 29 0 (ab_dd tk_cl_whyNot 16 rfl) rfl rfl rfl ?_
          refine t_getP 32 c (ab_dd tk_cl_whyNot 17 rfl) rfl F_cl_12 (by rcases hK.1 with z | z <;> omega) (Nat.lt_of_le_of_lt (Nat.le_add_right x 9) hK.2.1) hK.2.2.1 rfl a2 ?_
          refine t_getP 35 lb (ab_dd tk_cl_whyNot 18 rfl) rfl F_cl_66 hk.1 (Nat.lt_of_le_of_lt (Nat.le_add_right c 2) hk.2.1) hk.2.2.1 rfl l1 ?_
          refine x_ifnonnull_t 40 (ab_dd tk_cl_whyNot 19 rfl) (by decide) ?_
          obtain ⟨-, hB2, -⟩ := hB.2.2.2.2.1 (d - 1) (by omega)
          obtain ⟨-, hB3, -⟩ := hB.2.2.2.2.1 d (by omega)
          refine x_aload_n 41 0 (ab_dd tk_cl_whyNot 22 rfl) rfl rfl rfl ?_
          refine t_getP 44 78 (ab_dd tk_cl_whyNot 23 rfl) rfl F_cl_47 (by rcases hK.1 with z | z <;> omega) (Nat.lt_of_le_of_lt (Nat.le_add_right x 9) hK.2.1) hK.2.2.1 rfl hK.2.2.2.2.2.2.2.2.1 ?_
          refine x_iload_n 45 3 (ab_dd tk_cl_whyNot 24 rfl) rfl rfl rfl ?_
          refine x_iload_n 46 1 (ab_dd tk_cl_whyNot 25 rfl) rfl rfl rfl ?_
          refine x_iconst 47 1 (ab_dd tk_cl_whyNot 26 rfl) rfl (by decide) (x_topn 1 rfl ?_)
          refine x_isub 48 (ab_dd tk_cl_whyNot 27 rfl) rfl (x_topn (d - 1) (pk_sub (by omega)) ?_)
          refine t_callV 51 M_se_riderIn 0 2 [_, _] (ab_dd tk_cl_whyNot 28 rfl) rfl (by first | decide | omega) K_se_riderIn V_se_riderIn.1 V_se_riderIn.2 L_cl_69 rfl (Nat.le_of_ble_eq_true rfl) (by decide) (Nat.lt_of_lt_of_le (by decide) hx.1) (hx.2.1 28 (by decide)) rfl (c_se_riderIn (by exact hx) (by exact hse) q (d - 1) (by omega) (by omega)) (fun v1 w1 h1 => ?_)
          obtain ⟨rfl, rfl⟩ := h1
          refine x_istore 53 [some (.ref x), some (.int (nI d)), some (.int (nI w)), some (.int (nI q)), some (.int (nI (qRi q (d - 1)))), none, none] 4 (ab_dd tk_cl_whyNot 29 rfl) rfl (by decide) rfl ?_
          refine x_aload_n 54 0 (ab_dd tk_cl_whyNot 30 rfl) rfl rfl rfl ?_
          refine t_getP 57 78 (ab_dd tk_cl_whyNot 31 rfl) rfl F_cl_47 (by rcases hK.1 with z | z <;> omega) (Nat.lt_of_le_of_lt (Nat.le_add_right x 9) hK.2.1) hK.2.2.1 rfl hK.2.2.2.2.2.2.2.2.1 ?_
          refine x_iload_n 58 3 (ab_dd tk_cl_whyNot 32 rfl) rfl rfl rfl ?_
          refine x_iload_n 59 1 (ab_dd tk_cl_whyNot 33 rfl) rfl rfl rfl ?_
          refine t_callV 62 M_se_riderIn 0 2 [_, _] (ab_dd tk_cl_whyNot 34 rfl) rfl (by first | decide | omega) K_se_riderIn V_se_riderIn.1 V_se_riderIn.2 L_cl_69 rfl (Nat.le_of_ble_eq_true rfl) (by decide) (Nat.lt_of_lt_of_le (by decide) hx.1) (hx.2.1 28 (by decide)) rfl (c_se_riderIn (by exact hx) (by exact hse) q d (by omega) (by omega)) (fun v1 w1 h1 => ?_)
          obtain ⟨rfl, rfl⟩ := h1
          refine x_istore 64 [some (.ref x), some (.int (nI d)), some (.int (nI w)), some (.int (nI q)), some (.int (nI (qRi q (d - 1)))), some (.int (nI (qRi q d))), none] 5 (ab_dd tk_cl_whyNot 35 rfl) rfl (by decide) rfl ?_
          refine x_aload_n 65 0 (ab_dd tk_cl_whyNot 36 rfl) rfl rfl rfl ?_
          refine x_iload 67 4 (ab_dd tk_cl_whyNot 37 rfl) rfl rfl ?_
          refine x_iload_n 68 2 (ab_dd tk_cl_whyNot 38 rfl) rfl rfl rfl ?_
          refine x_iload 70 4 (ab_dd tk_cl_whyNot 39 rfl) rfl rfl ?_
          refine x_callS 73 M_s_warmthOf 0 2 [_, _] (ab_dd tk_cl_whyNot 40 rfl) rfl (by first | decide | omega) K_s_warmthOf T_s_warmthOf L_cl_75 rfl (Nat.le_of_ble_eq_true rfl) (c_s_warmthOf (by exact kc) (by exact h50) w (qRi q (d - 1)) (by omega) (by omega)) (fun v1 w1 h1 => ?_)
          obtain ⟨rfl, rfl⟩ := h1
          refine x_iload_n 74 1 (ab_dd tk_cl_whyNot 41 rfl) rfl rfl rfl ?_
          refine t_callV 77 M_cl_mayGo 2 3 [_, _, _] (ab_dd tk_cl_whyNot 42 rfl) rfl (by first | decide | omega) K_cl_mayGo V_cl_mayGo.1 V_cl_mayGo.2 L_cl_78 rfl (Nat.le_of_ble_eq_true rfl) (by rcases hK.1 with z | z <;> omega) (Nat.lt_of_le_of_lt (Nat.le_add_right x 9) hK.2.1) hK.2.2.1 rfl (c_cl_mayGo (by exact hK) him (by exact hcl) ha hml (qRi q (d - 1)) (mWa w (qRi q (d - 1))) d (by omega) (by exact mWa_lt _ _) (by omega)) (fun v1 w1 h1 => ?_)
          obtain ⟨rfl, S1, rfl, hE1, hcl1⟩ := h1
          have hK1 : clK S1 x := hK.eq hE1
          have kc1 : kSh S1.1 := by rw [hE1.1]; exact kc
          have h501 : 50 ≤ sn S1 := by rw [hE1.2.2.2.2.2.1]; exact h50
          refine xb_if_eq 80 102 (ab_dd tk_cl_whyNot 43 rfl) rfl (by decide) (fun h77 => ?_) (fun h77 => ?_)
          · refine x_iconst 103 0 (ab_dd tk_cl_whyNot 56 rfl) rfl (by decide) (x_topn 0 rfl ?_)
            refine x_istore 105 [some (.ref x), some (.int (nI d)), some (.int (nI w)), some (.int (nI q)), some (.int (nI (qRi q (d - 1)))), some (.int (nI (qRi q d))), some (.int (nI 0))] 6 (ab_dd tk_cl_whyNot 57 rfl) rfl (by decide) rfl ?_
            refine x_iload 107 6 (ab_dd tk_cl_whyNot 58 rfl) rfl rfl ?_
            refine x_if_eq_t 114 (ab_dd tk_cl_whyNot 59 rfl) (by decide) rfl ?_
            refine x_iconst 115 2 (ab_dd tk_cl_whyNot 62 rfl) rfl (by decide) (x_topn 2 rfl ?_)
            exact x_iret (ab_dd tk_cl_whyNot 63 rfl) ⟨rI (congrArg nI (by rw [if_neg (by omega), if_neg (by omega), cSt_sit hR hq hw (show d - 1 < aR a by omega), cSt_sit hR hq hw (show d < aR a by omega), ← hml]; rw [if_neg (fun z => h77 ((spM_V hml hw).mp z.1))])), _, rfl, hE1, hcl1⟩
          · refine x_aload_n 81 0 (ab_dd tk_cl_whyNot 44 rfl) rfl rfl rfl ?_
            refine x_iload 83 5 (ab_dd tk_cl_whyNot 45 rfl) rfl rfl ?_
            refine x_iload_n 84 2 (ab_dd tk_cl_whyNot 46 rfl) rfl rfl rfl ?_
            refine x_iload 86 5 (ab_dd tk_cl_whyNot 47 rfl) rfl rfl ?_
            refine x_callS 89 M_s_warmthOf 0 2 [_, _] (ab_dd tk_cl_whyNot 48 rfl) rfl (by first | decide | omega) K_s_warmthOf T_s_warmthOf L_cl_75 rfl (Nat.le_of_ble_eq_true rfl) (c_s_warmthOf (by exact kc1) (by exact h501) w (qRi q d) (by omega) (by omega)) (fun v1 w1 h1 => ?_)
            obtain ⟨rfl, rfl⟩ := h1
            refine x_iload_n 90 1 (ab_dd tk_cl_whyNot 49 rfl) rfl rfl rfl ?_
            refine x_iconst 91 1 (ab_dd tk_cl_whyNot 50 rfl) rfl (by decide) (x_topn 1 rfl ?_)
            refine x_isub 92 (ab_dd tk_cl_whyNot 51 rfl) rfl (x_topn (d - 1) (pk_sub (by omega)) ?_)
            refine t_callV 95 M_cl_mayGo 2 3 [_, _, _] (ab_dd tk_cl_whyNot 52 rfl) rfl (by first | decide | omega) K_cl_mayGo V_cl_mayGo.1 V_cl_mayGo.2 L_cl_78 rfl (Nat.le_of_ble_eq_true rfl) (by rcases hK1.1 with z | z <;> omega) (Nat.lt_of_le_of_lt (Nat.le_add_right x 9) hK1.2.1) hK1.2.2.1 rfl (c_cl_mayGo (by exact hK1) him (by exact hcl1) ha hml (qRi q d) (mWa w (qRi q d)) (d - 1) (by omega) (by exact mWa_lt _ _) (by omega)) (fun v1 w1 h1 => ?_)
            obtain ⟨rfl, S2, rfl, hE2, hcl2⟩ := h1
            have hK2 : clK S2 x := hK1.eq hE2
            refine xb_if_eq 98 102 (ab_dd tk_cl_whyNot 53 rfl) rfl (by decide) (fun h95 => ?_) (fun h95 => ?_)
            · refine x_iconst 103 0 (ab_dd tk_cl_whyNot 56 rfl) rfl (by decide) (x_topn 0 rfl ?_)
              refine x_istore 105 [some (.ref x), some (.int (nI d)), some (.int (nI w)), some (.int (nI q)), some (.int (nI (qRi q (d - 1)))), some (.int (nI (qRi q d))), some (.int (nI 0))] 6 (ab_dd tk_cl_whyNot 57 rfl) rfl (by decide) rfl ?_
              refine x_iload 107 6 (ab_dd tk_cl_whyNot 58 rfl) rfl rfl ?_
              refine x_if_eq_t 114 (ab_dd tk_cl_whyNot 59 rfl) (by decide) rfl ?_
              refine x_iconst 115 2 (ab_dd tk_cl_whyNot 62 rfl) rfl (by decide) (x_topn 2 rfl ?_)
              exact x_iret (ab_dd tk_cl_whyNot 63 rfl) ⟨rI (congrArg nI (by rw [if_neg (by omega), if_neg (by omega), cSt_sit hR hq hw (show d - 1 < aR a by omega), cSt_sit hR hq hw (show d < aR a by omega), ← hml]; rw [if_neg (fun z => h95 ((spM_V hml hw).mp z.2))])), _, rfl, hE1.tr hE2, hcl2⟩
            · refine x_iconst 99 1 (ab_dd tk_cl_whyNot 54 rfl) rfl (by decide) (x_topn 1 rfl ?_)
              refine x_goto 103 (ab_dd tk_cl_whyNot 55 rfl) (by decide) ?_
              refine x_istore 105 [some (.ref x), some (.int (nI d)), some (.int (nI w)), some (.int (nI q)), some (.int (nI (qRi q (d - 1)))), some (.int (nI (qRi q d))), some (.int (nI 1))] 6 (ab_dd tk_cl_whyNot 57 rfl) rfl (by decide) rfl ?_
              refine x_iload 107 6 (ab_dd tk_cl_whyNot 58 rfl) rfl rfl ?_
              refine x_if_eq_f 110 (ab_dd tk_cl_whyNot 59 rfl) rfl 114 (by decide) (by decide) ?_
              refine x_iconst 111 0 (ab_dd tk_cl_whyNot 60 rfl) rfl (by decide) (x_topn 0 rfl ?_)
              refine x_goto 115 (ab_dd tk_cl_whyNot 61 rfl) (by decide) ?_
              exact x_iret (ab_dd tk_cl_whyNot 63 rfl) ⟨rI (congrArg nI (by rw [if_neg (by omega), if_neg (by omega), cSt_sit hR hq hw (show d - 1 < aR a by omega), cSt_sit hR hq hw (show d < aR a by omega), ← hml]; rw [if_pos ⟨(spM_V hml hw).mpr h77, (spM_V hml hw).mpr h95⟩])), _, rfl, hE1.tr hE2, hcl2⟩
        · refine x_iconst 27 1 (ab_dd tk_cl_whyNot 14 rfl) rfl (by decide) (x_topn 1 rfl ?_)
          exact x_iret (ab_dd tk_cl_whyNot 15 rfl) ⟨rI (congrArg nI (by rw [if_neg (by omega), if_pos (by omega)])), S, rfl, sEq.rf, hcl⟩
    · refine x_iconst 5 0 (ab_dd tk_cl_whyNot 2 rfl) rfl (by decide) (x_topn 0 rfl ?_)
      exact x_iret (ab_dd tk_cl_whyNot 3 rfl) ⟨rI (congrArg nI (if_pos h1).symm), S, rfl, sEq.rf, hcl⟩
theorem c_cl_whyNotN {G : ab_G} {S : ab_S} {im : Nat → Prop} {x c bh nb st : Nat} {a : Nat → Int32} (hK : clK S x) (him : imO im) (hcl : clI S im x c a bh nb st) (u : Int32) (hu : u < 0) (w q : Int32) : ab_C G 3 M_cl_whyNot [.ref x, .int u, .int w, .int q] (sw S) (fun v w' => v = some (.int 1) ∧ w' = sw S) := by
  refine x_enter [some (.ref x), some (.int u), some (.int w), some (.int q), none, none, none] (by decide) (Nat.le_of_ble_eq_true rfl) rfl (fun v w' h => by obtain ⟨rfl, rfl⟩ := h; rfl) ?_
  refine x_iload_n 1 1 (ab_dd tk_cl_whyNot 0 rfl) rfl rfl rfl ?_
  refine x_if_ne_t 6 (ab_dd tk_cl_whyNot 1 rfl) (by decide) (by intro z; rw [z] at hu; exact absurd hu (by decide)) ?_
  refine x_iload_n 7 1 (ab_dd tk_cl_whyNot 4 rfl) rfl rfl rfl ?_
  refine x_if_lt_t 26 (ab_dd tk_cl_whyNot 5 rfl) (by decide) hu ?_
  refine x_iconst 27 1 (ab_dd tk_cl_whyNot 14 rfl) rfl (by decide) (x_topn 1 rfl ?_)
  exact x_iret (ab_dd tk_cl_whyNot 15 rfl) ⟨rfl, rfl⟩
def qB2 (R q : Nat) : Bool := !(decide (q < kFc R)) || (List.range R).all (fun s => (qSe q (qRi q s) == s) && (qRi q (qSe q s) == s))
theorem qB2_all : (List.range 5).all (fun R => (List.range 24).all (qB2 R)) = true := by decide +kernel
theorem qB2_ok {R q : Nat} (hR : R ≤ 4) (hq : q < kFc R) : ∀ s, s < R → qSe q (qRi q s) = s ∧ qRi q (qSe q s) = s := by
  have h0 := qB2_all
  rw [List.all_eq_true] at h0
  have h1 := h0 R (List.mem_range.mpr (by omega))
  rw [List.all_eq_true] at h1
  have h2 := h1 q (List.mem_range.mpr (Nat.lt_of_lt_of_le hq (kFc_le R)))
  unfold qB2 at h2
  rw [decide_eq_true hq] at h2
  simp only [Bool.not_true, Bool.false_or, List.all_eq_true, List.mem_range, Bool.and_eq_true, beq_iff_eq] at h2
  exact h2
/-- a sum over who sits beside, those below n -/
def nbF (R seat xl xr : Nat) (f : Nat → Nat) (n : Nat) : Nat := (if 1 ≤ seat ∧ xl < n then f xl else 0) + (if seat + 1 < R ∧ xr < n then f xr else 0)
theorem nbF_y {R seat xl xr n : Nat} {f : Nat → Nat} (hne : 1 ≤ seat → seat + 1 < R → xl ≠ xr) (h : (1 ≤ seat ∧ n = xl) ∨ (seat + 1 < R ∧ n = xr)) : nbF R seat xl xr f (n + 1) = nbF R seat xl xr f n + f n := by
  unfold nbF
  rcases h with ⟨h1, rfl⟩ | ⟨h1, rfl⟩
  · rw [if_pos ⟨h1, by omega⟩, if_neg (show ¬ (1 ≤ seat ∧ n < n) by omega)]
    by_cases z : seat + 1 < R
    · have := hne h1 z
      by_cases y : xr < n
      · rw [if_pos ⟨z, by omega⟩, if_pos ⟨z, y⟩] <;> omega
      · rw [if_neg (by omega), if_neg (by omega)] <;> omega
    · rw [if_neg (by omega), if_neg (by omega)] <;> omega
  · rw [if_pos (show seat + 1 < R ∧ n < n + 1 from ⟨h1, by omega⟩), if_neg (show ¬ (seat + 1 < R ∧ n < n) by omega)]
    by_cases z : 1 ≤ seat
    · have := hne z h1
      by_cases y : xl < n
      · rw [if_pos ⟨z, by omega⟩, if_pos ⟨z, y⟩] <;> omega
      · rw [if_neg (by omega), if_neg (by omega)] <;> omega
    · rw [if_neg (by omega), if_neg (by omega)] <;> omega
theorem nbF_n {R seat xl xr n : Nat} {f : Nat → Nat} (h : ¬ ((1 ≤ seat ∧ n = xl) ∨ (seat + 1 < R ∧ n = xr))) : nbF R seat xl xr f (n + 1) = nbF R seat xl xr f n := by
  have h1 : ¬ (1 ≤ seat ∧ n = xl) := fun z => h (Or.inl z)
  have h2 : ¬ (seat + 1 < R ∧ n = xr) := fun z => h (Or.inr z)
  unfold nbF
  congr 1
  · by_cases z : 1 ≤ seat ∧ xl < n
    · rw [if_pos z, if_pos ⟨z.1, by omega⟩]
    · rw [if_neg z, if_neg (by omega)]
  · by_cases z : seat + 1 < R ∧ xr < n
    · rw [if_pos z, if_pos ⟨z.1, by omega⟩]
    · rw [if_neg z, if_neg (by omega)]
theorem spB_nb {sea : Nat → Int32} {R w q r : Nat} (hR : R ≤ 4) (hq : q < kFc R) (hw : w < 625) (hr : r < R) : ∀ n, n ≤ R → spB sea (cSt R w q) r n = (nbF R (qSe q r) (qRi q (qSe q r - 1)) (qRi q (qSe q r + 1)) (fun _ => 1) n, nbF R (qSe q r) (qRi q (qSe q r - 1)) (qRi q (qSe q r + 1)) (mWa w) n, nbF R (qSe q r) (qRi q (qSe q r - 1)) (qRi q (qSe q r + 1)) (fun o => if sea o = sea r then 1 else 0) n) := by
  have hi := qB2_ok hR hq
  have hb := qB1_ok hR hq
  have hsr : qSe q r < R := (hb.2.2.2.2.1 r hr).2.2
  have hse : ∀ o, o < R → mSe (cSt R w q) o = qSe q o := fun o ho => by rw [cSt_se hR hq hw (by omega), if_pos ho]
  intro n
  induction n with
  | zero =>
    intro _
    show (0, 0, 0) = _
    unfold nbF
    rw [if_neg (by omega), if_neg (by omega)]
    simp
  | succ n ih =>
    intro hn
    have ih := ih (by omega)
    have hiff : (mSe (cSt R w q) n = mSe (cSt R w q) r + 1 ∨ mSe (cSt R w q) r = mSe (cSt R w q) n + 1) ↔ ((1 ≤ qSe q r ∧ n = qRi q (qSe q r - 1)) ∨ (qSe q r + 1 < R ∧ n = qRi q (qSe q r + 1))) := by
      rw [hse n (by omega), hse r hr]
      have hnn := hi n (by omega)
      have hsn : qSe q n < R := (hb.2.2.2.2.1 n (by omega)).2.2
      constructor
      · intro h
        rcases h with h | h
        · right; exact ⟨by omega, by rw [← h]; exact hnn.2.symm⟩
        · left; exact ⟨by omega, by rw [h, Nat.add_sub_cancel]; exact hnn.2.symm⟩
      · intro h
        rcases h with ⟨h1, h2⟩ | ⟨h1, h2⟩
        · right
          have := (hi (qSe q r - 1) (by omega)).1
          rw [← h2] at this
          omega
        · left
          have := (hi (qSe q r + 1) h1).1
          rw [← h2] at this
          omega
    have hne : 1 ≤ qSe q r → qSe q r + 1 < R → qRi q (qSe q r - 1) ≠ qRi q (qSe q r + 1) := fun z y e => by
      have e1 := (hi (qSe q r - 1) (by omega)).1
      have e2 := (hi (qSe q r + 1) y).1
      rw [e, e2] at e1
      omega
    unfold spB
    by_cases z : (mSe (cSt R w q) n = mSe (cSt R w q) r + 1 ∨ mSe (cSt R w q) r = mSe (cSt R w q) n + 1)
    · rw [if_pos z, ih, nbF_y hne (hiff.mp z), nbF_y hne (hiff.mp z), nbF_y hne (hiff.mp z), cSt_wa hw]
    · rw [if_neg z, ih, nbF_n (fun y => z (hiff.mpr y)), nbF_n (fun y => z (hiff.mpr y)), nbF_n (fun y => z (hiff.mpr y))]
theorem nbF_R {R q seat : Nat} {f : Nat → Nat} (hR : R ≤ 4) (hq : q < kFc R) (hs : seat < R) : nbF R seat (qRi q (seat - 1)) (qRi q (seat + 1)) f R = (if 1 ≤ seat then f (qRi q (seat - 1)) else 0) + (if seat + 1 < R then f (qRi q (seat + 1)) else 0) := by
  have hb := qB1_ok hR hq
  unfold nbF
  congr 1
  · by_cases z : 1 ≤ seat
    · rw [if_pos z, if_pos ⟨z, (hb.2.2.2.2.1 (seat - 1) (by omega)).2.1⟩]
    · rw [if_neg z, if_neg (fun y => z y.1)]
  · by_cases z : seat + 1 < R
    · rw [if_pos z, if_pos ⟨z, (hb.2.2.2.2.1 (seat + 1) z).2.1⟩]
    · rw [if_neg z, if_neg (fun y => z y.1)]
/-- how warm, and of how many the same season, those are that sit beside -/
def nbH (R w q r : Nat) : Nat := (if 1 ≤ qSe q r then mWa w (qRi q (qSe q r - 1)) else 0) + (if qSe q r + 1 < R then mWa w (qRi q (qSe q r + 1)) else 0)
def nbS (sea : Nat → Int32) (R q r : Nat) : Nat := (if 1 ≤ qSe q r then (if sea (qRi q (qSe q r - 1)) = sea r then 1 else 0) else 0) + (if qSe q r + 1 < R then (if sea (qRi q (qSe q r + 1)) = sea r then 1 else 0) else 0)
theorem spB_R {sea : Nat → Int32} {R w q r : Nat} (hR : R ≤ 4) (hq : q < kFc R) (hw : w < 625) (hr : r < R) : spB sea (cSt R w q) r R = (bsd R (qSe q r), nbH R w q r, nbS sea R q r) := by
  have hb := qB1_ok hR hq
  have hsr : qSe q r < R := (hb.2.2.2.2.1 r hr).2.2
  rw [spB_nb hR hq hw hr R (Nat.le_refl R), nbF_R hR hq hsr, nbF_R hR hq hsr, nbF_R hR hq hsr]
  rfl
theorem spT_cl {a : Nat → Int32} {w q r : Nat} (hR : aR a ≤ 4) (hq : q < kFc (aR a)) (hw : w < 625) (hr : r < aR a) {n : Nat} {cd : Nat → Int32} (hwl : mWl (rwS a) = some (n, cd)) : spT (mWl (rwS a)) (mSea (rwS a)) (mCls (rwS a)) (aR a) (a 40) (cSt (aR a) w q) r = wV a r (mWa w r) (qSe q r) (nbH (aR a) w q r) (nbS (mSea (rwS a)) (aR a) q r) := by
  unfold spT wV
  rw [hwl]
  dsimp only
  rw [spB_R hR hq hw hr, cSt_wa hw, cSt_se hR hq hw (by omega), if_pos hr]
theorem nbH_le (R w q r : Nat) : nbH R w q r ≤ 4 * bsd R (qSe q r) := by
  unfold nbH bsd
  have h1 := mWa_lt w (qRi q (qSe q r - 1))
  have h2 := mWa_lt w (qRi q (qSe q r + 1))
  split <;> split <;> omega
theorem nbS_le (sea : Nat → Int32) (R q r : Nat) : nbS sea R q r ≤ 2 := by
  unfold nbS
  split
  · split
    · split
      · split <;> omega
      · omega
    · split
      · split <;> omega
      · omega
  · split
    · split <;> omega
    · omega
theorem bsd_le (R s : Nat) : bsd R s ≤ 2 := by unfold bsd; split <;> split <;> omega
theorem wK_pl (a : Nat → Int32) {r own seat heat same : Nat} (ho : own < 5) (hs : seat < 4) (hh : heat ≤ 8) (hm : same ≤ 2) : wK a ((((r * 5 + own) * 4 + seat) * 9 + heat) * 3 + same) = wV a r own seat heat same := by
  unfold wK
  rw [show ((((r * 5 + own) * 4 + seat) * 9 + heat) * 3 + same) / 540 = r by omega, show ((((r * 5 + own) * 4 + seat) * 9 + heat) * 3 + same) / 108 % 5 = own by omega, show ((((r * 5 + own) * 4 + seat) * 9 + heat) * 3 + same) / 27 % 4 = seat by omega, show ((((r * 5 + own) * 4 + seat) * 9 + heat) * 3 + same) / 3 % 9 = heat by omega, show ((((r * 5 + own) * 4 + seat) * 9 + heat) * 3 + same) % 3 = same by omega]
theorem spT_no {a : Nat → Int32} {w q r : Nat} (hR : aR a ≤ 4) (hq : q < kFc (aR a)) (hw : w < 625) (hr : r < aR a) (hwl : mWl (rwS a) = none) : spT (mWl (rwS a)) (mSea (rwS a)) (mCls (rwS a)) (aR a) (a 40) (cSt (aR a) w q) r = (if mWa w r * bsd (aR a) (qSe q r) < nbH (aR a) w q r then mWa w r + 1 else if nbH (aR a) w q r < mWa w r * bsd (aR a) (qSe q r) then mWa w r - 1 else mWa w r) := by
  unfold spT
  rw [hwl]
  dsimp only
  rw [spB_R hR hq hw hr, cSt_wa hw]
  dsimp only
  have h1 := nbH_le (aR a) w q r
  have h2 := mWa_lt w r
  have h3 := bsd_le (aR a) (qSe q r)
  have c4n : ∀ k, k ≤ 4 → cl4 (nI k) = k := by decide
  by_cases z : mWa w r * bsd (aR a) (qSe q r) < nbH (aR a) w q r
  · rw [if_pos z, if_pos z, nI_1]
    apply c4n
    have hb : bsd (aR a) (qSe q r) = 0 ∨ bsd (aR a) (qSe q r) = 1 ∨ bsd (aR a) (qSe q r) = 2 := by omega
    rcases hb with hb | hb | hb <;> (rw [hb] at z h1; omega)
  · rw [if_neg z, if_neg z]
    by_cases y : nbH (aR a) w q r < mWa w r * bsd (aR a) (qSe q r)
    · rw [if_pos y, if_pos y]
      have h0 : 1 ≤ mWa w r := by
        apply Nat.pos_of_ne_zero
        intro e
        rw [e, Nat.zero_mul] at y
        omega
      rw [show nI (mWa w r) - 1 = nI (mWa w r - 1) from pk_sub h0]
      exact c4n _ (by omega)
    · rw [if_neg y, if_neg y]
      exact c4n _ (by omega)
