/-! ===== placing ===== -/
theorem plO_c {x : Int32} {R : Nat} (hR : R ≤ 4) : plO x R ↔ (x = 0 ∨ x = 1 ∨ (0 ≤ x.toInt64 - 10 ∧ x.toInt64 - 10 < lN R)) := by
  have b1 := Int32.le_toInt x
  have b2 := Int32.toInt_le x
  have m1 : Int32.minValue.toInt = -2147483648 := by decide
  have m2 : Int32.maxValue.toInt = 2147483647 := by decide
  have e10 : (10 : Int64).toInt = 10 := by decide
  have e0 : (0 : Int64).toInt = 0 := by decide
  have f10 : (10 : Int32).toInt = 10 := by decide
  have f0 : (0 : Int32).toInt = 0 := by decide
  have f1 : (1 : Int32).toInt = 1 := by decide
  have e1 : (x.toInt64 - 10).toInt = x.toInt - 10 := by rw [Int64.toInt_sub, Int32.toInt_toInt64, e10, Int.bmod_eq_of_le (by omega) (by omega)]
  have eR : (lN R).toInt = (R : Int) := lN_toInt (by omega)
  have g0 : x = 0 ↔ x.toInt = 0 := by rw [← Int32.toInt_inj, f0]
  have g1 : x = 1 ↔ x.toInt = 1 := by rw [← Int32.toInt_inj, f1]
  unfold plO
  rw [Int64.le_iff_toInt_le, Int64.lt_iff_toInt_lt, e1, eR, e0, g0, g1, Int32.le_iff_toInt_le, Int32.le_iff_toInt_le, Int32.le_iff_toInt_le, Int32.le_iff_toInt_le, f0, f1, f10]
  by_cases z : 10 ≤ x.toInt
  · have e2 : (x - 10).toInt = x.toInt - 10 := by rw [Int32.toInt_sub, f10, Int.bmod_eq_of_le (by omega) (by omega)]
    have e3 : cN (x - 10) = (x.toInt - 10).toNat := by
      show (x - 10).toInt.toNat = _
      rw [e2]
    rw [e2, e3]
    omega
  · omega
theorem kFc_0 (R : Nat) : 0 < kFc R := by
  unfold kFc
  repeat' split
  all_goals decide
theorem x01 {x : Int32} (h : 0 ≤ x ∧ x ≤ 1) : x = 0 ∨ x = 1 := by
  obtain ⟨q, hq, e, -⟩ := in_get (n := 1) (by decide) h
  rcases (show q = 0 ∨ q = 1 by omega) with z | z <;> rw [z] at e
  · exact Or.inl e
  · exact Or.inr e
def tb_s_warmWhenSeated : List (Nat × Instr × Nat) := [(0, .aload_n 0, 1), (1, .invokevirtual 163, 3), (4, .astore_n 3, 1), (5, .aload_n 0, 1), (6, .getfield 27, 3), (9, .getfield 145, 3), (12, .istore 4, 2), (14, .iconst 0, 1), (15, .istore 5, 2), (17, .iload 5, 2), (19, .iload_n 2, 1), (20, .if_icmp .ge 18, 3), (23, .aload_n 3, 1), (24, .iload 4, 2), (26, .iload_n 1, 1), (27, .invokevirtual 174, 3), (30, .istore 4, 2), (32, .iinc 5 1, 3), (35, .goto (-18), 3), (38, .iload 4, 2), (40, .ireturn, 1)]
theorem tk_s_warmWhenSeated : ∀ q ∈ tb_s_warmWhenSeated, decode M_s_warmWhenSeated.2.1 q.1 = .ok q.2 := by decide +kernel
theorem b_s_warmSeated {G : ab_G} {S : ab_S} {im : Nat → Prop} {a b : Nat → Int32} {c bh nb st st2 u : Nat} (h : kBd S im a c b bh nb st st2 u) (ht : sdE S 55 (rowT a)) (hu : u + 1 < 2 ^ 20) (q n : Nat) (hq : q < kFc (aR a)) (hn : n ≤ 20) : ab_C G 4 M_s_warmWhenSeated [.ref 50, .int (nI q), .int (nI n)] (sw S) (fun v w' => v = some (.int (nI (cI a (aW a) q n))) ∧ ∃ S' st', w' = sw S' ∧ sEq [84, 89, 91, 92, 93, bh] S S' ∧ kBd S' im a c a bh nb st' st2 (u + 1) ∧ sdE S' 55 (rowT a)) := by
  refine x_enter [some (.ref 50), some (.int (nI q)), some (.int (nI n)), none, none, none] (by decide) (Nat.le_of_ble_eq_true rfl) rfl (fun v w' h => by obtain ⟨rfl, -⟩ := h; rfl) ?_
  have hbh := h.bh.1
  have h0 := h
  obtain ⟨hx, hse, kc, ⟨him, hil, h145⟩, ha, hc, ⟨hb1, hb2, hcl, hnb⟩, hcl9, -, hid, -, hu1, hu2⟩ := h0
  have h40 : sI S 55 3 = a 40 := ht.2.2.2.1.trans ha.1.m40.1.symm
  have hca := hcl.1.sta hb2.sy
  obtain ⟨hk, c1, -⟩ := hca
  have hR := ha.1.R.2
  have h50 : 50 ≤ sn S := by omega
  obtain ⟨hq0, hw0, hE0⟩ := rowT_in ha.1
  have hw6 : aW a < 625 := by have := p5_6 hR; omega
  have hq24 := Nat.lt_of_lt_of_le hq0 (kFc_le (aR a))
  refine x_aload_n 1 0 (ab_dd tk_s_warmWhenSeated 0 rfl) rfl rfl rfl ?_
  refine t_callV 4 M_s_lawsNow 1 0 [] (ab_dd tk_s_warmWhenSeated 1 rfl) rfl (by first | decide | omega) K_s_lawsNow V_s_lawsNow.1 V_s_lawsNow.2 L_s_163 rfl (Nat.le_of_ble_eq_true rfl) (by decide) (Nat.lt_of_lt_of_le (by decide) hx.1) (hx.2.1 0 (by decide)) rfl (b_s_lawsNow h ht (by omega)) (fun v1 w1 h1 => ?_)
  obtain ⟨rfl, S1, s1, rfl, hE1, hB1, hn1⟩ := h1
  have hB1c := hB1
  obtain ⟨hx1, hse1, kc1, -, -, -, ⟨-, -, hcl1, -⟩, -, -, -, -, hsu1, -⟩ := hB1c
  have hF1 : fAs im bh S S1 := fAs.of (gF.sE hE1) (by omega) (fun y _ z => by have := List.mem_singleton.mp z; omega) (by omega)
  refine x_astore_n 5 [some (.ref 50), some (.int (nI q)), some (.int (nI n)), some (.ref 84), none, none] 3 (ab_dd tk_s_warmWhenSeated 2 rfl) rfl rfl (by decide) rfl ?_
  refine x_aload_n 6 0 (ab_dd tk_s_warmWhenSeated 3 rfl) rfl rfl rfl ?_
  refine t_getP 9 55 (ab_dd tk_s_warmWhenSeated 4 rfl) rfl F_s_27 (by decide) (Nat.lt_of_lt_of_le (by decide) hx1.1) (hx1.2.1 0 (by decide)) rfl (hx1.2.2 (50, 3, 55) (by decide)) ?_
  refine t_getI 12 (ab_dd tk_s_warmWhenSeated 5 rfl) rfl F_s_145 (by decide) (Nat.lt_of_lt_of_le (by decide) hx1.1) (hx1.2.1 5 (by decide)) rfl (x_topn (aW a) hn1.2.1 ?_)
  refine x_istore 14 [some (.ref 50), some (.int (nI q)), some (.int (nI n)), some (.ref 84), some (.int (nI (aW a))), none] 4 (ab_dd tk_s_warmWhenSeated 6 rfl) rfl (by decide) rfl ?_
  refine x_iconst 15 0 (ab_dd tk_s_warmWhenSeated 7 rfl) rfl (by decide) (x_topn 0 rfl ?_)
  refine x_istore 17 [some (.ref 50), some (.int (nI q)), some (.int (nI n)), some (.ref 84), some (.int (nI (aW a))), some (.int (nI 0))] 5 (ab_dd tk_s_warmWhenSeated 8 rfl) rfl (by decide) rfl ?_
  have loop : ∀ (m k : Nat), k + m = n → ∀ S2 : ab_S, kBd S2 im a c a bh nb s1 st2 (u + 1) → sEq [84, 89, 91, 92, 93, bh] S S2 → sdE S2 55 (rowT a) → ab_Ex G 4 M_s_warmWhenSeated 17 [some (.ref 50), some (.int (nI q)), some (.int (nI n)), some (.ref 84), some (.int (nI (cI a (aW a) q k))), some (.int (nI k))] [] (sw S2) (fun v w' => v = some (.int (nI (cI a (aW a) q n))) ∧ ∃ S' st', w' = sw S' ∧ sEq [84, 89, 91, 92, 93, bh] S S' ∧ kBd S' im a c a bh nb st' st2 (u + 1) ∧ sdE S' 55 (rowT a)) := by
    intro m
    induction m with
    | zero =>
      intro k hkm S2 hB2 hE2 hn2
      have hkn : k = n := by omega
      rw [hkn]
      refine x_iload 19 5 (ab_dd tk_s_warmWhenSeated 9 rfl) rfl rfl ?_
      refine x_iload_n 20 2 (ab_dd tk_s_warmWhenSeated 10 rfl) rfl rfl rfl ?_
      refine x_icmp_ge_t 38 (ab_dd tk_s_warmWhenSeated 11 rfl) (by decide) ((nI_leI (a := n) (b := n) (by omega) (by omega)).mpr (show n ≤ n by omega)) ?_
      refine x_iload 40 4 (ab_dd tk_s_warmWhenSeated 19 rfl) rfl rfl ?_
      exact x_iret (ab_dd tk_s_warmWhenSeated 20 rfl) ⟨rfl, S2, s1, rfl, hE2, hB2, hn2⟩
    | succ m ih =>
      intro k hkm S2 hB2 hE2 hn2
      have hB2c := hB2
      obtain ⟨hx2, hse2, kc2, -, -, -, ⟨-, -, hcl2, -⟩, -, -, -, -, hsu2, -⟩ := hB2c
      have hck := cI_lt hR hq hw0 k
      refine x_iload 19 5 (ab_dd tk_s_warmWhenSeated 9 rfl) rfl rfl ?_
      refine x_iload_n 20 2 (ab_dd tk_s_warmWhenSeated 10 rfl) rfl rfl rfl ?_
      refine x_icmp_ge_f 23 (ab_dd tk_s_warmWhenSeated 11 rfl) rfl 38 (by decide) (fun z => absurd ((nI_leI (a := n) (b := k) (by omega) (by omega)).mp z) (show ¬ (n ≤ k) by omega)) ?_
      refine x_aload_n 24 3 (ab_dd tk_s_warmWhenSeated 12 rfl) rfl rfl rfl ?_
      refine x_iload 26 4 (ab_dd tk_s_warmWhenSeated 13 rfl) rfl rfl ?_
      refine x_iload_n 27 1 (ab_dd tk_s_warmWhenSeated 14 rfl) rfl rfl rfl ?_
      refine t_callV 30 M_cl_behind 3 2 [_, _] (ab_dd tk_s_warmWhenSeated 15 rfl) rfl (by first | decide | omega) K_cl_behind V_cl_behind.1 V_cl_behind.2 L_s_174 rfl (Nat.le_of_ble_eq_true rfl) (by decide) (Nat.lt_of_lt_of_le (by decide) hx2.1) (hx2.2.1 34 (by decide)) rfl (c_cl_behind (hx2.cl (Or.inl rfl)) him hcl2 hx2 hse2 kc2 ha (cI a (aW a) q k) q hck hq) (fun v1 w1 h1 => ?_)
      obtain ⟨rfl, S3, rfl, hE3, hcl3⟩ := h1
      have hB3 : kBd S3 im a c a bh nb s1 st2 (u + 1) := hB2.se84 hE3 (fun y hy => by simp only [List.mem_cons, List.not_mem_nil, or_false] at hy; omega) ha sta.rf ha.1 sta.rf hcl3 (kpX.of (hE3.2.2.1 84 (by simp only [List.mem_cons, List.not_mem_nil, or_false, not_or]; omega))) (Nat.le_refl _) (Nat.le_refl _) hsu2
      have hx3 : xSh S3 := hB3.1
      refine x_istore 32 [some (.ref 50), some (.int (nI q)), some (.int (nI n)), some (.ref 84), some (.int (nI (cI a (aW a) q (k + 1)))), some (.int (nI k))] 4 (ab_dd tk_s_warmWhenSeated 16 rfl) rfl (by decide) rfl ?_
      refine xn_iinc 35 5 (fun y => [some (.ref 50), some (.int (nI q)), some (.int (nI n)), some (.ref 84), some (.int (nI (cI a (aW a) q (k + 1)))), some (.int y)]) (k + 1) (ab_dd tk_s_warmWhenSeated 17 rfl) rfl (by decide) rfl (fun _ => rfl) (iinc_p 1) ?_
      refine x_goto 17 (ab_dd tk_s_warmWhenSeated 18 rfl) (by decide) ?_
      exact ih (k + 1) (by omega) S3 hB3 (hE2.tr (hE3.mono (fun y hy => by simp only [List.mem_cons, List.not_mem_nil, or_false] at hy ⊢; omega))) (hn2.eq hE3 (by simp only [List.mem_cons, List.not_mem_nil, or_false, not_or]; omega))
  exact loop n 0 (by omega) S1 hB1 (hE1.mono (fun y hy => by simp only [List.mem_cons, List.not_mem_nil, or_false] at hy ⊢; omega)) hn1
def tb_s_isBetter : List (Nat × Instr × Nat) := [(0, .iload_n 1, 1), (1, .aload_n 0, 1), (2, .getfield 20, 3), (5, .getfield 177, 3), (8, .invokestatic 191, 3), (11, .istore 5, 2), (13, .iload_n 3, 1), (14, .aload_n 0, 1), (15, .getfield 20, 3), (18, .getfield 177, 3), (21, .invokestatic 191, 3), (24, .istore 6, 2), (26, .iload 5, 2), (28, .iload 6, 2), (30, .if_icmp .eq 16, 3), (33, .iload 5, 2), (35, .iload 6, 2), (37, .if_icmp .le 7, 3), (40, .iconst 1, 1), (41, .goto 4, 3), (44, .iconst 0, 1), (45, .ireturn, 1), (46, .iload_n 1, 1), (47, .aload_n 0, 1), (48, .getfield 20, 3), (51, .getfield 177, 3), (54, .invokestatic 229, 3), (57, .istore 7, 2), (59, .iload_n 3, 1), (60, .aload_n 0, 1), (61, .getfield 20, 3), (64, .getfield 177, 3), (67, .invokestatic 229, 3), (70, .istore 8, 2), (72, .iload 7, 2), (74, .iload 8, 2), (76, .if_icmp .eq 16, 3), (79, .iload 7, 2), (81, .iload 8, 2), (83, .if_icmp .le 7, 3), (86, .iconst 1, 1), (87, .goto 4, 3), (90, .iconst 0, 1), (91, .ireturn, 1), (92, .aload_n 0, 1), (93, .getfield 68, 3), (96, .iload_n 2, 1), (97, .invokevirtual 342, 3), (100, .aload_n 0, 1), (101, .getfield 68, 3), (104, .iload 4, 2), (106, .invokevirtual 342, 3), (109, .if_icmp .ge 7, 3), (112, .iconst 1, 1), (113, .goto 4, 3), (116, .iconst 0, 1), (117, .ireturn, 1)]
theorem tk_s_isBetter : ∀ q ∈ tb_s_isBetter, decode M_s_isBetter.2.1 q.1 = .ok q.2 := by decide +kernel
theorem b_s_isBetter {G : ab_G} {S : ab_S} {im : Nat → Prop} {a b : Nat → Int32} {c bh nb st st2 u : Nat} (h : kBd S im a c b bh nb st st2 u) (w1 q1 w2 q2 : Nat) (h1w : w1 < 625) (h2w : w2 < 625) (h1q : q1 < 24) (h2q : q2 < 24) : ab_C G 2 M_s_isBetter [.ref 50, .int (nI w1), .int (nI q1), .int (nI w2), .int (nI q2)] (sw S) (fun v w' => v = some (.int (if (mLe w2 (aR a) < mLe w1 (aR a) ∨ (mLe w1 (aR a) = mLe w2 (aR a) ∧ (mSu w2 (aR a) < mSu w1 (aR a) ∨ (mSu w1 (aR a) = mSu w2 (aR a) ∧ qO q1 < qO q2)))) then 1 else 0)) ∧ w' = sw S) := by
  refine x_enter [some (.ref 50), some (.int (nI w1)), some (.int (nI q1)), some (.int (nI w2)), some (.int (nI q2)), none, none, none, none] (by decide) (Nat.le_of_ble_eq_true rfl) rfl (fun v w' h => by obtain ⟨rfl, rfl⟩ := h; show narrow _ _ = _; split <;> rfl) ?_
  have hbh := h.bh.1
  have h0 := h
  obtain ⟨hx, hse, kc, ⟨him, hil, h145⟩, ha, hc, ⟨hb1, hb2, hcl, hnb⟩, hcl9, -, hid, -, hu1, hu2⟩ := h0
  obtain ⟨hk, c1, -⟩ := (hcl.1.sta hb2.sy : caI S im c a)
  have hR := ha.1.R.2
  have l1 := mLe_le w1 (aR a)
  have l2 := mLe_le w2 (aR a)
  have s1 := mSu_le w1 (aR a)
  have s2 := mSu_le w2 (aR a)
  have o1 := qO_256 q1 h1q
  have o2 := qO_256 q2 h2q
  refine x_iload_n 1 1 (ab_dd tk_s_isBetter 0 rfl) rfl rfl rfl ?_
  refine x_aload_n 2 0 (ab_dd tk_s_isBetter 1 rfl) rfl rfl rfl ?_
  refine t_getP 5 c (ab_dd tk_s_isBetter 2 rfl) rfl F_s_20 (by decide) (Nat.lt_of_lt_of_le (by decide) hx.1) (hx.2.1 0 (by decide)) rfl hc ?_
  refine t_getI 8 (ab_dd tk_s_isBetter 3 rfl) rfl F_s_177 hk.1 (Nat.lt_of_le_of_lt (Nat.le_add_right c 2) hk.2.1) hk.2.2.1 rfl (x_topn (aR a) c1 ?_)
  refine x_callS 11 M_s_leastOf 1 2 [_, _] (ab_dd tk_s_isBetter 4 rfl) rfl (by first | decide | omega) K_s_leastOf T_s_leastOf L_s_191 rfl (Nat.le_of_ble_eq_true rfl) (c_s_leastOf w1 (aR a) (by omega) hR) (fun v1 w1 h1 => ?_)
  obtain ⟨rfl, rfl⟩ := h1
  refine x_istore 13 [some (.ref 50), some (.int (nI w1)), some (.int (nI q1)), some (.int (nI w2)), some (.int (nI q2)), some (.int (nI (mLe w1 (aR a)))), none, none, none] 5 (ab_dd tk_s_isBetter 5 rfl) rfl (by decide) rfl ?_
  refine x_iload_n 14 3 (ab_dd tk_s_isBetter 6 rfl) rfl rfl rfl ?_
  refine x_aload_n 15 0 (ab_dd tk_s_isBetter 7 rfl) rfl rfl rfl ?_
  refine t_getP 18 c (ab_dd tk_s_isBetter 8 rfl) rfl F_s_20 (by decide) (Nat.lt_of_lt_of_le (by decide) hx.1) (hx.2.1 0 (by decide)) rfl hc ?_
  refine t_getI 21 (ab_dd tk_s_isBetter 9 rfl) rfl F_s_177 hk.1 (Nat.lt_of_le_of_lt (Nat.le_add_right c 2) hk.2.1) hk.2.2.1 rfl (x_topn (aR a) c1 ?_)
  refine x_callS 24 M_s_leastOf 1 2 [_, _] (ab_dd tk_s_isBetter 10 rfl) rfl (by first | decide | omega) K_s_leastOf T_s_leastOf L_s_191 rfl (Nat.le_of_ble_eq_true rfl) (c_s_leastOf w2 (aR a) (by omega) hR) (fun v1 w1 h1 => ?_)
  obtain ⟨rfl, rfl⟩ := h1
  refine x_istore 26 [some (.ref 50), some (.int (nI w1)), some (.int (nI q1)), some (.int (nI w2)), some (.int (nI q2)), some (.int (nI (mLe w1 (aR a)))), some (.int (nI (mLe w2 (aR a)))), none, none] 6 (ab_dd tk_s_isBetter 11 rfl) rfl (by decide) rfl ?_
  refine x_iload 28 5 (ab_dd tk_s_isBetter 12 rfl) rfl rfl ?_
  refine x_iload 30 6 (ab_dd tk_s_isBetter 13 rfl) rfl rfl ?_
  refine xn_icmp_eq 33 46 (ab_dd tk_s_isBetter 14 rfl) rfl (by decide) (by omega) (by omega) (fun h30 => ?_) (fun h30 => ?_)
  · refine x_iload_n 47 1 (ab_dd tk_s_isBetter 22 rfl) rfl rfl rfl ?_
    refine x_aload_n 48 0 (ab_dd tk_s_isBetter 23 rfl) rfl rfl rfl ?_
    refine t_getP 51 c (ab_dd tk_s_isBetter 24 rfl) rfl F_s_20 (by decide) (Nat.lt_of_lt_of_le (by decide) hx.1) (hx.2.1 0 (by decide)) rfl hc ?_
    refine t_getI 54 (ab_dd tk_s_isBetter 25 rfl) rfl F_s_177 hk.1 (Nat.lt_of_le_of_lt (Nat.le_add_right c 2) hk.2.1) hk.2.2.1 rfl (x_topn (aR a) c1 ?_)
    refine x_callS 57 M_s_sumOf 1 2 [_, _] (ab_dd tk_s_isBetter 26 rfl) rfl (by first | decide | omega) K_s_sumOf T_s_sumOf L_s_229 rfl (Nat.le_of_ble_eq_true rfl) (c_s_sumOf w1 (aR a) (by omega) hR) (fun v1 w1 h1 => ?_)
    obtain ⟨rfl, rfl⟩ := h1
    refine x_istore 59 [some (.ref 50), some (.int (nI w1)), some (.int (nI q1)), some (.int (nI w2)), some (.int (nI q2)), some (.int (nI (mLe w1 (aR a)))), some (.int (nI (mLe w2 (aR a)))), some (.int (nI (mSu w1 (aR a)))), none] 7 (ab_dd tk_s_isBetter 27 rfl) rfl (by decide) rfl ?_
    refine x_iload_n 60 3 (ab_dd tk_s_isBetter 28 rfl) rfl rfl rfl ?_
    refine x_aload_n 61 0 (ab_dd tk_s_isBetter 29 rfl) rfl rfl rfl ?_
    refine t_getP 64 c (ab_dd tk_s_isBetter 30 rfl) rfl F_s_20 (by decide) (Nat.lt_of_lt_of_le (by decide) hx.1) (hx.2.1 0 (by decide)) rfl hc ?_
    refine t_getI 67 (ab_dd tk_s_isBetter 31 rfl) rfl F_s_177 hk.1 (Nat.lt_of_le_of_lt (Nat.le_add_right c 2) hk.2.1) hk.2.2.1 rfl (x_topn (aR a) c1 ?_)
    refine x_callS 70 M_s_sumOf 1 2 [_, _] (ab_dd tk_s_isBetter 32 rfl) rfl (by first | decide | omega) K_s_sumOf T_s_sumOf L_s_229 rfl (Nat.le_of_ble_eq_true rfl) (c_s_sumOf w2 (aR a) (by omega) hR) (fun v1 w1 h1 => ?_)
    obtain ⟨rfl, rfl⟩ := h1
    refine x_istore 72 [some (.ref 50), some (.int (nI w1)), some (.int (nI q1)), some (.int (nI w2)), some (.int (nI q2)), some (.int (nI (mLe w1 (aR a)))), some (.int (nI (mLe w2 (aR a)))), some (.int (nI (mSu w1 (aR a)))), some (.int (nI (mSu w2 (aR a))))] 8 (ab_dd tk_s_isBetter 33 rfl) rfl (by decide) rfl ?_
    refine x_iload 74 7 (ab_dd tk_s_isBetter 34 rfl) rfl rfl ?_
    refine x_iload 76 8 (ab_dd tk_s_isBetter 35 rfl) rfl rfl ?_
    refine xn_icmp_eq 79 92 (ab_dd tk_s_isBetter 36 rfl) rfl (by decide) (by omega) (by omega) (fun h76 => ?_) (fun h76 => ?_)
    · refine x_aload_n 93 0 (ab_dd tk_s_isBetter 44 rfl) rfl rfl rfl ?_
      refine t_getP 96 78 (ab_dd tk_s_isBetter 45 rfl) rfl F_s_68 (by decide) (Nat.lt_of_lt_of_le (by decide) hx.1) (hx.2.1 0 (by decide)) rfl (hx.2.2 (50, 11, 78) (by decide)) ?_
      refine x_iload_n 97 2 (ab_dd tk_s_isBetter 46 rfl) rfl rfl rfl ?_
      refine t_callV 100 M_se_orderOf 0 1 [_] (ab_dd tk_s_isBetter 47 rfl) rfl (by first | decide | omega) K_se_orderOf V_se_orderOf.1 V_se_orderOf.2 L_s_342 rfl (Nat.le_of_ble_eq_true rfl) (by decide) (Nat.lt_of_lt_of_le (by decide) hx.1) (hx.2.1 28 (by decide)) rfl (c_se_orderOf hx hse q1 (by omega)) (fun v1 w1 h1 => ?_)
      obtain ⟨rfl, rfl⟩ := h1
      refine x_aload_n 101 0 (ab_dd tk_s_isBetter 48 rfl) rfl rfl rfl ?_
      refine t_getP 104 78 (ab_dd tk_s_isBetter 49 rfl) rfl F_s_68 (by decide) (Nat.lt_of_lt_of_le (by decide) hx.1) (hx.2.1 0 (by decide)) rfl (hx.2.2 (50, 11, 78) (by decide)) ?_
      refine x_iload 106 4 (ab_dd tk_s_isBetter 50 rfl) rfl rfl ?_
      refine t_callV 109 M_se_orderOf 0 1 [_] (ab_dd tk_s_isBetter 51 rfl) rfl (by first | decide | omega) K_se_orderOf V_se_orderOf.1 V_se_orderOf.2 L_s_342 rfl (Nat.le_of_ble_eq_true rfl) (by decide) (Nat.lt_of_lt_of_le (by decide) hx.1) (hx.2.1 28 (by decide)) rfl (c_se_orderOf hx hse q2 (by omega)) (fun v1 w1 h1 => ?_)
      obtain ⟨rfl, rfl⟩ := h1
      refine xn_icmp_ge 112 116 (ab_dd tk_s_isBetter 52 rfl) rfl (by decide) (by omega) (by omega) (fun h109 => ?_) (fun h109 => ?_)
      · refine x_iconst 117 0 (ab_dd tk_s_isBetter 55 rfl) rfl (by decide) (x_topn 0 rfl ?_)
        exact x_iret (ab_dd tk_s_isBetter 56 rfl) ⟨rI (if_neg (by omega)).symm, rfl⟩
      · refine x_iconst 113 1 (ab_dd tk_s_isBetter 53 rfl) rfl (by decide) (x_topn 1 rfl ?_)
        refine x_goto 117 (ab_dd tk_s_isBetter 54 rfl) (by decide) ?_
        exact x_iret (ab_dd tk_s_isBetter 56 rfl) ⟨rI (if_pos (by omega)).symm, rfl⟩
    · refine x_iload 81 7 (ab_dd tk_s_isBetter 37 rfl) rfl rfl ?_
      refine x_iload 83 8 (ab_dd tk_s_isBetter 38 rfl) rfl rfl ?_
      refine xn_icmp_le 86 90 (ab_dd tk_s_isBetter 39 rfl) rfl (by decide) (by omega) (by omega) (fun h83 => ?_) (fun h83 => ?_)
      · refine x_iconst 91 0 (ab_dd tk_s_isBetter 42 rfl) rfl (by decide) (x_topn 0 rfl ?_)
        exact x_iret (ab_dd tk_s_isBetter 43 rfl) ⟨rI (if_neg (by omega)).symm, rfl⟩
      · refine x_iconst 87 1 (ab_dd tk_s_isBetter 40 rfl) rfl (by decide) (x_topn 1 rfl ?_)
        refine x_goto 91 (ab_dd tk_s_isBetter 41 rfl) (by decide) ?_
        exact x_iret (ab_dd tk_s_isBetter 43 rfl) ⟨rI (if_pos (by omega)).symm, rfl⟩
  · refine x_iload 35 5 (ab_dd tk_s_isBetter 15 rfl) rfl rfl ?_
    refine x_iload 37 6 (ab_dd tk_s_isBetter 16 rfl) rfl rfl ?_
    refine xn_icmp_le 40 44 (ab_dd tk_s_isBetter 17 rfl) rfl (by decide) (by omega) (by omega) (fun h37 => ?_) (fun h37 => ?_)
    · refine x_iconst 45 0 (ab_dd tk_s_isBetter 20 rfl) rfl (by decide) (x_topn 0 rfl ?_)
      exact x_iret (ab_dd tk_s_isBetter 21 rfl) ⟨rI (if_neg (by omega)).symm, rfl⟩
    · refine x_iconst 41 1 (ab_dd tk_s_isBetter 18 rfl) rfl (by decide) (x_topn 1 rfl ?_)
      refine x_goto 45 (ab_dd tk_s_isBetter 19 rfl) (by decide) ?_
      exact x_iret (ab_dd tk_s_isBetter 21 rfl) ⟨rI (if_pos (by omega)).symm, rfl⟩
def tb_s_placing : List (Nat × Instr × Nat) := [(0, .iload_n 2, 1), (1, .ifCond .eq 24, 3), (4, .iload_n 2, 1), (5, .iconst 1, 1), (6, .if_icmp .eq 19, 3), (9, .aload_n 0, 1), (10, .iload_n 2, 1), (11, .i2l, 1), (12, .ldc2_w 246, 3), (15, .lsub, 1), (16, .invokevirtual 130, 3), (19, .ifCond .ne 6, 3), (22, .bipush (-2), 2), (24, .ireturn, 1), (25, .iload_n 1, 1), (26, .ifCond .lt 9, 3), (29, .iload_n 1, 1), (30, .bipush 20, 2), (32, .if_icmp .le 6, 3), (35, .bipush (-3), 2), (37, .ireturn, 1), (38, .aload_n 0, 1), (39, .getfield 20, 3), (42, .getfield 177, 3), (45, .ifCond .ne 5, 3), (48, .iconst (-1), 1), (49, .ireturn, 1), (50, .iconst 0, 1), (51, .istore_n 3, 1), (52, .aload_n 0, 1), (53, .iconst 0, 1), (54, .iload_n 1, 1), (55, .invokevirtual 335, 3), (58, .istore 4, 2), (60, .iconst 1, 1), (61, .istore 5, 2), (63, .iload 5, 2), (65, .getstatic 325, 3), (68, .aload_n 0, 1), (69, .getfield 20, 3), (72, .getfield 177, 3), (75, .iaload, 1), (76, .if_icmp .ge 39, 3), (79, .aload_n 0, 1), (80, .iload 5, 2), (82, .iload_n 1, 1), (83, .invokevirtual 335, 3), (86, .istore 6, 2), (88, .aload_n 0, 1), (89, .iload 6, 2), (91, .iload 5, 2), (93, .iload 4, 2), (95, .iload_n 3, 1), (96, .invokevirtual 338, 3), (99, .ifCond .eq 10, 3), (102, .iload 5, 2), (104, .istore_n 3, 1), (105, .iload 6, 2), (107, .istore 4, 2), (109, .iinc 5 1, 3), (112, .goto (-49), 3), (115, .iload_n 2, 1), (116, .ifCond .ne 16, 3), (119, .iload 4, 2), (121, .aload_n 0, 1), (122, .getfield 20, 3), (125, .getfield 177, 3), (128, .invokestatic 191, 3), (131, .ireturn, 1), (132, .iload_n 2, 1), (133, .iconst 1, 1), (134, .if_icmp .ne 18, 3), (137, .iload 4, 2), (139, .aload_n 0, 1), (140, .getfield 20, 3), (143, .getfield 177, 3), (146, .invokestatic 229, 3), (149, .goto 15, 3), (152, .aload_n 0, 1), (153, .getfield 68, 3), (156, .iload_n 3, 1), (157, .iload_n 2, 1), (158, .bipush 10, 2), (160, .isub, 1), (161, .invokevirtual 154, 3), (164, .ireturn, 1)]
theorem tk_s_placing : ∀ q ∈ tb_s_placing, decode M_s_placing.2.1 q.1 = .ok q.2 := by decide +kernel
theorem p_s_placing {G : ab_G} {S : ab_S} {im : Nat → Prop} {a b : Nat → Int32} {c bh nb st st2 u : Nat} (h : kBd S im a c b bh nb st st2 u) (ht : sdE S 55 (rowT a)) (hu : u + 64 < 2 ^ 20) (e x : Int32) : ab_C G 7 M_s_placing [.ref 50, .int e, .int x] (sw S) (fun v w' => ∃ v0, pAs S im a c bh nb u 0 0 (some (.int v0)) v w' ∧ ((¬ plO x (aR a) ∧ v0 = -2) ∨ (plO x (aR a) ∧ ¬ (0 ≤ e ∧ e ≤ 20) ∧ v0 = -3) ∨ (plO x (aR a) ∧ (0 ≤ e ∧ e ≤ 20) ∧ aR a = 0 ∧ v0 = -1) ∨ (plO x (aR a) ∧ (0 ≤ e ∧ e ≤ 20) ∧ 0 < aR a ∧ ∀ q0, v0 = plV x ((plX (aR a) (aR a) 0 0 (fun _ => 0)).foldl (plU a (cN e)) (-1, -1, q0))))) := by
  refine x_enter [some (.ref 50), some (.int e), some (.int x), none, none, none, none] (by decide) (Nat.le_of_ble_eq_true rfl) rfl (fun v w' h => by obtain ⟨v0, ⟨rfl, -⟩, -⟩ := h; rfl) ?_
  have hbh := h.bh.1
  have h0 := h
  obtain ⟨hx, hse, kc, ⟨him, hil, h145⟩, ha, hc, ⟨hb1, hb2, hcl, hnb⟩, hcl9, -, hid, -, hu1, hu2⟩ := h0
  have h40 : sI S 55 3 = a 40 := ht.2.2.2.1.trans ha.1.m40.1.symm
  have hca := hcl.1.sta hb2.sy
  obtain ⟨hk, c1, -⟩ := hca
  have hR := ha.1.R.2
  have h50 : 50 ≤ sn S := by omega
  obtain ⟨hq0, hw0, hE0⟩ := rowT_in ha.1
  have hw6 : aW a < 625 := by have := p5_6 hR; omega
  have hq24 := Nat.lt_of_lt_of_le hq0 (kFc_le (aR a))
  have hpo := plO_c (x := x) hR
  have rest : plO x (aR a) → ab_Ex G 7 M_s_placing 25 [some (.ref 50), some (.int e), some (.int x), none, none, none, none] [] (sw S) (fun v w' => ∃ v0, pAs S im a c bh nb u 0 0 (some (.int v0)) v w' ∧ ((¬ plO x (aR a) ∧ v0 = -2) ∨ (plO x (aR a) ∧ ¬ (0 ≤ e ∧ e ≤ 20) ∧ v0 = -3) ∨ (plO x (aR a) ∧ (0 ≤ e ∧ e ≤ 20) ∧ aR a = 0 ∧ v0 = -1) ∨ (plO x (aR a) ∧ (0 ≤ e ∧ e ≤ 20) ∧ 0 < aR a ∧ ∀ q0, v0 = plV x ((plX (aR a) (aR a) 0 0 (fun _ => 0)).foldl (plU a (cN e)) (-1, -1, q0))))) := by
    intro hP
    refine x_iload_n 26 1 (ab_dd tk_s_placing 14 rfl) rfl rfl rfl ?_
    refine x_if_lt 29 35 (ab_dd tk_s_placing 15 rfl) rfl (by decide) (fun h26 => ?_) (fun h26 => ?_)
    · refine x_bipush 37 (-3) (ab_dd tk_s_placing 19 rfl) rfl (by decide) ?_
      exact x_iret (ab_dd tk_s_placing 20 rfl) ⟨-3, ⟨rfl, S, b, st, st2, rfl, fAs.rf, gA.rf, h.up (by omega), ht⟩, Or.inr (Or.inl ⟨hP, fun z => absurd h26 (Int32.not_lt.mpr z.1), rfl⟩)⟩
    · refine x_iload_n 30 1 (ab_dd tk_s_placing 16 rfl) rfl rfl rfl ?_
      refine x_bipush 32 20 (ab_dd tk_s_placing 17 rfl) rfl (by decide) (x_topn 20 rfl ?_)
      refine x_icmp_le 35 38 (ab_dd tk_s_placing 18 rfl) rfl (by decide) (fun h32 => ?_) (fun h32 => ?_)
      · have hnn : 0 ≤ e ∧ e ≤ 20 := ⟨Int32.not_lt.mp h26, h32⟩
        obtain ⟨n, hn, ekn, enn⟩ := in_get (n := 20) (by decide) hnn
        rw [show some (Value.int e) = some (Value.int (nI n)) by rw [ekn], enn]
        refine x_aload_n 39 0 (ab_dd tk_s_placing 21 rfl) rfl rfl rfl ?_
        refine t_getP 42 c (ab_dd tk_s_placing 22 rfl) rfl F_s_20 (by decide) (Nat.lt_of_lt_of_le (by decide) hx.1) (hx.2.1 0 (by decide)) rfl hc ?_
        refine t_getI 45 (ab_dd tk_s_placing 23 rfl) rfl F_s_177 hk.1 (Nat.lt_of_le_of_lt (Nat.le_add_right c 2) hk.2.1) hk.2.2.1 rfl (x_topn (aR a) c1 ?_)
        refine xn_if_ne 48 50 (ab_dd tk_s_placing 24 rfl) rfl (by decide) (by omega) (fun h45 => ?_) (fun h45 => ?_)
        · refine x_iconst 51 0 (ab_dd tk_s_placing 27 rfl) rfl (by decide) (x_topn 0 rfl ?_)
          refine x_istore_n 52 [some (.ref 50), some (.int (nI n)), some (.int x), some (.int (nI 0)), none, none, none] 3 (ab_dd tk_s_placing 28 rfl) rfl rfl (by decide) rfl ?_
          refine x_aload_n 53 0 (ab_dd tk_s_placing 29 rfl) rfl rfl rfl ?_
          refine x_iconst 54 0 (ab_dd tk_s_placing 30 rfl) rfl (by decide) (x_topn 0 rfl ?_)
          refine x_iload_n 55 1 (ab_dd tk_s_placing 31 rfl) rfl rfl rfl ?_
          refine t_callV 58 M_s_warmWhenSeated 4 2 [_, _] (ab_dd tk_s_placing 32 rfl) rfl (by first | decide | omega) K_s_warmWhenSeated V_s_warmWhenSeated.1 V_s_warmWhenSeated.2 L_s_335 rfl (Nat.le_of_ble_eq_true rfl) (by decide) (Nat.lt_of_lt_of_le (by decide) hx.1) (hx.2.1 0 (by decide)) rfl (b_s_warmSeated h ht (by omega) 0 n (kFc_0 (aR a)) hn) (fun v1 w1 h1 => ?_)
          obtain ⟨rfl, S1, s1, rfl, hE1, hB1, hn1⟩ := h1
          have hx1 : xSh S1 := hB1.1
          have hF1 : fAs im bh S S1 := fAs.of (gF.sE hE1) (by omega) (fun y _ z => by simp only [List.mem_cons, List.not_mem_nil, or_false] at z; omega) (by omega)
          refine x_istore 60 [some (.ref 50), some (.int (nI n)), some (.int x), some (.int (nI 0)), some (.int (nI (cI a (aW a) 0 n))), none, none] 4 (ab_dd tk_s_placing 33 rfl) rfl (by decide) rfl ?_
          refine x_iconst 61 1 (ab_dd tk_s_placing 34 rfl) rfl (by decide) (x_topn 1 rfl ?_)
          refine x_istore 63 [some (.ref 50), some (.int (nI n)), some (.int x), some (.int (nI 0)), some (.int (nI (cI a (aW a) 0 n))), some (.int (nI 1)), none] 5 (ab_dd tk_s_placing 35 rfl) rfl (by decide) rfl ?_
          have hR0 : 0 < aR a := by omega
          have loop : ∀ (m k : Nat), k + m = kFc (aR a) → 0 < k → ∀ (q : Nat) (y6 : Option Value) (S2 : ab_S) (s2 : Nat), q < k → (∀ q', q' < k → kyP a n q' ≤ kyP a n q) → kBd S2 im a c a bh nb s2 st2 (u + k) → sdE S2 55 (rowT a) → fAs im bh S S2 → gA S S2 0 0 → ab_Ex G 7 M_s_placing 63 [some (.ref 50), some (.int (nI n)), some (.int x), some (.int (nI q)), some (.int (nI (cI a (aW a) q n))), some (.int (nI k)), y6] [] (sw S2) (fun v w' => ∃ v0, pAs S im a c bh nb u 0 0 (some (.int v0)) v w' ∧ ((¬ plO x (aR a) ∧ v0 = -2) ∨ (plO x (aR a) ∧ ¬ (0 ≤ e ∧ e ≤ 20) ∧ v0 = -3) ∨ (plO x (aR a) ∧ (0 ≤ e ∧ e ≤ 20) ∧ aR a = 0 ∧ v0 = -1) ∨ (plO x (aR a) ∧ (0 ≤ e ∧ e ≤ 20) ∧ 0 < aR a ∧ ∀ q0, v0 = plV x ((plX (aR a) (aR a) 0 0 (fun _ => 0)).foldl (plU a n) (-1, -1, q0))))) := by
            intro m
            induction m with
            | zero =>
              intro k hkm hk0 q y6 S2 s2 hqk hbest hB2 hn2 hF2 hG2
              have hkF : k = kFc (aR a) := by omega
              have hB2c := hB2
              obtain ⟨hx2, hse2, kc2, ⟨-, -, h1452⟩, -, hc2, ⟨-, -, hcl2, -⟩, -⟩ := hB2c
              have h502 : 50 ≤ sn S2 := by omega
              obtain ⟨hk2, c21, -⟩ := hcl2.1
              have hqF : q < kFc (aR a) := by omega
              have hF24 := kFc_le (aR a)
              have hcq := cI_lt hR hqF hw0 n
              have hcq6 : cI a (aW a) q n < 625 := by have := p5_6 hR; omega
              have hpl := place_c ha.1 (n := n) hqF (fun q' z => hbest q' (by omega))
              refine x_iload 65 5 (ab_dd tk_s_placing 36 rfl) rfl rfl ?_
              refine x_gets 68 (ab_dd tk_s_placing 37 rfl) rfl (List.mem_of_getElem? (i := 1) rfl) F_s_325 ?_
              refine x_aload_n 69 0 (ab_dd tk_s_placing 38 rfl) rfl rfl rfl ?_
              refine t_getP 72 c (ab_dd tk_s_placing 39 rfl) rfl F_s_20 (by decide) (Nat.lt_of_lt_of_le (by decide) hx2.1) (hx2.2.1 0 (by decide)) rfl hc2 ?_
              refine t_getI 75 (ab_dd tk_s_placing 40 rfl) rfl F_s_177 hk2.1 (Nat.lt_of_le_of_lt (Nat.le_add_right c 2) hk2.2.1) hk2.2.2.1 rfl (x_topn (aR a) c21 ?_)
              refine t_ialdK 76 (aR a) (ab_dd tk_s_placing 41 rfl) rfl (by decide) h502 (kc2.2.2) rfl (by omega) (by decide) (x_topn (kFc (aR a)) (kFc_N (aR a) (by omega)) ?_)
              refine x_icmp_ge_t 115 (ab_dd tk_s_placing 42 rfl) (by decide) ((nI_leI (a := (kFc (aR a))) (b := k) (by omega) (by omega)).mpr (show (kFc (aR a)) ≤ k by omega)) ?_
              refine x_iload_n 116 2 (ab_dd tk_s_placing 61 rfl) rfl rfl rfl ?_
              refine x_if_ne 119 132 (ab_dd tk_s_placing 62 rfl) rfl (by decide) (fun h116 => ?_) (fun h116 => ?_)
              · refine x_iload_n 133 2 (ab_dd tk_s_placing 69 rfl) rfl rfl rfl ?_
                refine x_iconst 134 1 (ab_dd tk_s_placing 70 rfl) rfl (by decide) (x_topn 1 rfl ?_)
                refine x_icmp_ne 137 152 (ab_dd tk_s_placing 71 rfl) rfl (by decide) (fun h134 => ?_) (fun h134 => ?_)
                · have hj : x - 10 = nI (cN (x - 10)) ∧ cN (x - 10) < aR a := by
                    rcases hP with z | z
                    · exfalso
                      rcases x01 z with y | y
                      · exact h116 y
                      · exact h134 y
                    · exact ⟨nI_cN z.2.1, z.2.2⟩
                  obtain ⟨j, ej⟩ : ∃ j, cN (x - 10) = j := ⟨_, rfl⟩
                  rw [ej] at hj
                  refine x_aload_n 153 0 (ab_dd tk_s_placing 78 rfl) rfl rfl rfl ?_
                  refine t_getP 156 78 (ab_dd tk_s_placing 79 rfl) rfl F_s_68 (by decide) (Nat.lt_of_lt_of_le (by decide) hx2.1) (hx2.2.1 0 (by decide)) rfl (hx2.2.2 (50, 11, 78) (by decide)) ?_
                  refine x_iload_n 157 3 (ab_dd tk_s_placing 80 rfl) rfl rfl rfl ?_
                  refine x_iload_n 158 2 (ab_dd tk_s_placing 81 rfl) rfl rfl rfl ?_
                  refine x_bipush 160 10 (ab_dd tk_s_placing 82 rfl) rfl (by decide) (x_topn 10 rfl ?_)
                  refine x_isub 161 (ab_dd tk_s_placing 83 rfl) rfl (x_topn j hj.1 ?_)
                  refine t_callV 164 M_se_seatOf 0 2 [_, _] (ab_dd tk_s_placing 84 rfl) rfl (by first | decide | omega) K_se_seatOf V_se_seatOf.1 V_se_seatOf.2 L_s_154 rfl (Nat.le_of_ble_eq_true rfl) (by decide) (Nat.lt_of_lt_of_le (by decide) hx2.1) (hx2.2.1 28 (by decide)) rfl (c_se_seatOf hx2 hse2 q j (by omega) (by omega)) (fun v1 w1 h1 => ?_)
                  obtain ⟨rfl, rfl⟩ := h1
                  exact x_iret (ab_dd tk_s_placing 85 rfl) ⟨_, ⟨rfl, S2, a, s2, st2, rfl, hF2, hG2, hB2.up (by omega), hn2⟩, Or.inr (Or.inr (Or.inr ⟨hP, (by first | exact hnn | (rw [← ekn]; exact hnn)), hR0, fun q0 => by unfold plV; rw [if_neg h116, if_neg (show ¬ x = 1 from h134), ej, (hpl q0).2.2 j hj.2]⟩))⟩
                · refine x_iload 139 4 (ab_dd tk_s_placing 72 rfl) rfl rfl ?_
                  refine x_aload_n 140 0 (ab_dd tk_s_placing 73 rfl) rfl rfl rfl ?_
                  refine t_getP 143 c (ab_dd tk_s_placing 74 rfl) rfl F_s_20 (by decide) (Nat.lt_of_lt_of_le (by decide) hx2.1) (hx2.2.1 0 (by decide)) rfl hc2 ?_
                  refine t_getI 146 (ab_dd tk_s_placing 75 rfl) rfl F_s_177 hk2.1 (Nat.lt_of_le_of_lt (Nat.le_add_right c 2) hk2.2.1) hk2.2.2.1 rfl (x_topn (aR a) c21 ?_)
                  refine x_callS 149 M_s_sumOf 1 2 [_, _] (ab_dd tk_s_placing 76 rfl) rfl (by first | decide | omega) K_s_sumOf T_s_sumOf L_s_229 rfl (Nat.le_of_ble_eq_true rfl) (c_s_sumOf (cI a (aW a) q n) (aR a) hcq6 hR) (fun v1 w1 h1 => ?_)
                  obtain ⟨rfl, rfl⟩ := h1
                  refine x_goto 164 (ab_dd tk_s_placing 77 rfl) (by decide) ?_
                  exact x_iret (ab_dd tk_s_placing 85 rfl) ⟨_, ⟨rfl, S2, a, s2, st2, rfl, hF2, hG2, hB2.up (by omega), hn2⟩, Or.inr (Or.inr (Or.inr ⟨hP, (by first | exact hnn | (rw [← ekn]; exact hnn)), hR0, fun q0 => by unfold plV; rw [if_neg h116, if_pos (show x = 1 from h134), (hpl q0).2.1]; rfl⟩))⟩
              · refine x_iload 121 4 (ab_dd tk_s_placing 63 rfl) rfl rfl ?_
                refine x_aload_n 122 0 (ab_dd tk_s_placing 64 rfl) rfl rfl rfl ?_
                refine t_getP 125 c (ab_dd tk_s_placing 65 rfl) rfl F_s_20 (by decide) (Nat.lt_of_lt_of_le (by decide) hx2.1) (hx2.2.1 0 (by decide)) rfl hc2 ?_
                refine t_getI 128 (ab_dd tk_s_placing 66 rfl) rfl F_s_177 hk2.1 (Nat.lt_of_le_of_lt (Nat.le_add_right c 2) hk2.2.1) hk2.2.2.1 rfl (x_topn (aR a) c21 ?_)
                refine x_callS 131 M_s_leastOf 1 2 [_, _] (ab_dd tk_s_placing 67 rfl) rfl (by first | decide | omega) K_s_leastOf T_s_leastOf L_s_191 rfl (Nat.le_of_ble_eq_true rfl) (c_s_leastOf (cI a (aW a) q n) (aR a) hcq6 hR) (fun v1 w1 h1 => ?_)
                obtain ⟨rfl, rfl⟩ := h1
                exact x_iret (ab_dd tk_s_placing 68 rfl) ⟨_, ⟨rfl, S2, a, s2, st2, rfl, hF2, hG2, hB2.up (by omega), hn2⟩, Or.inr (Or.inr (Or.inr ⟨hP, (by first | exact hnn | (rw [← ekn]; exact hnn)), hR0, fun q0 => by unfold plV; rw [if_pos h116, (hpl q0).1]; rfl⟩))⟩
            | succ m ih =>
              intro k hkm hk0 q y6 S2 s2 hqk hbest hB2 hn2 hF2 hG2
              have hB2c := hB2
              obtain ⟨hx2, hse2, kc2, ⟨-, -, h1452⟩, -, hc2, ⟨-, -, hcl2, -⟩, -⟩ := hB2c
              have h502 : 50 ≤ sn S2 := by omega
              obtain ⟨hk2, c21, -⟩ := hcl2.1
              have hF24 := kFc_le (aR a)
              have hqF : q < kFc (aR a) := by omega
              have hkF : k < kFc (aR a) := by omega
              have h625 := p5_6 hR
              have hcq := cI_lt hR hqF hw0 n
              have hck := cI_lt hR hkF hw0 n
              refine x_iload 65 5 (ab_dd tk_s_placing 36 rfl) rfl rfl ?_
              refine x_gets 68 (ab_dd tk_s_placing 37 rfl) rfl (List.mem_of_getElem? (i := 1) rfl) F_s_325 ?_
              refine x_aload_n 69 0 (ab_dd tk_s_placing 38 rfl) rfl rfl rfl ?_
              refine t_getP 72 c (ab_dd tk_s_placing 39 rfl) rfl F_s_20 (by decide) (Nat.lt_of_lt_of_le (by decide) hx2.1) (hx2.2.1 0 (by decide)) rfl hc2 ?_
              refine t_getI 75 (ab_dd tk_s_placing 40 rfl) rfl F_s_177 hk2.1 (Nat.lt_of_le_of_lt (Nat.le_add_right c 2) hk2.2.1) hk2.2.2.1 rfl (x_topn (aR a) c21 ?_)
              refine t_ialdK 76 (aR a) (ab_dd tk_s_placing 41 rfl) rfl (by decide) h502 (kc2.2.2) rfl (by omega) (by decide) (x_topn (kFc (aR a)) (kFc_N (aR a) (by omega)) ?_)
              refine x_icmp_ge_f 79 (ab_dd tk_s_placing 42 rfl) rfl 115 (by decide) (fun z => absurd ((nI_leI (a := (kFc (aR a))) (b := k) (by omega) (by omega)).mp z) (show ¬ ((kFc (aR a)) ≤ k) by omega)) ?_
              refine x_aload_n 80 0 (ab_dd tk_s_placing 43 rfl) rfl rfl rfl ?_
              refine x_iload 82 5 (ab_dd tk_s_placing 44 rfl) rfl rfl ?_
              refine x_iload_n 83 1 (ab_dd tk_s_placing 45 rfl) rfl rfl rfl ?_
              refine t_callV 86 M_s_warmWhenSeated 4 2 [_, _] (ab_dd tk_s_placing 46 rfl) rfl (by first | decide | omega) K_s_warmWhenSeated V_s_warmWhenSeated.1 V_s_warmWhenSeated.2 L_s_335 rfl (Nat.le_of_ble_eq_true rfl) (by decide) (Nat.lt_of_lt_of_le (by decide) hx2.1) (hx2.2.1 0 (by decide)) rfl (b_s_warmSeated hB2 hn2 (by omega) k n hkF hn) (fun v1 w1 h1 => ?_)
              obtain ⟨rfl, S3, s3, rfl, hE3, hB3, hn3⟩ := h1
              have hx3 : xSh S3 := hB3.1
              have hF3 : fAs im bh S S3 := hF2.tr (fAs.of (gF.sE hE3) (Nat.lt_of_lt_of_le (by decide) hx2.1) (fun y _ z => by simp only [List.mem_cons, List.not_mem_nil, or_false] at z; omega) (by omega))
              have hG3 : gA S S3 0 0 := hG2.tr (gA.sE hE3)
              refine x_istore 88 [some (.ref 50), some (.int (nI n)), some (.int x), some (.int (nI q)), some (.int (nI (cI a (aW a) q n))), some (.int (nI k)), some (.int (nI (cI a (aW a) k n)))] 6 (ab_dd tk_s_placing 47 rfl) rfl (by decide) rfl ?_
              refine x_aload_n 89 0 (ab_dd tk_s_placing 48 rfl) rfl rfl rfl ?_
              refine x_iload 91 6 (ab_dd tk_s_placing 49 rfl) rfl rfl ?_
              refine x_iload 93 5 (ab_dd tk_s_placing 50 rfl) rfl rfl ?_
              refine x_iload 95 4 (ab_dd tk_s_placing 51 rfl) rfl rfl ?_
              refine x_iload_n 96 3 (ab_dd tk_s_placing 52 rfl) rfl rfl rfl ?_
              refine t_callV 99 M_s_isBetter 2 4 [_, _, _, _] (ab_dd tk_s_placing 53 rfl) rfl (by first | decide | omega) K_s_isBetter V_s_isBetter.1 V_s_isBetter.2 L_s_338 rfl (Nat.le_of_ble_eq_true rfl) (by decide) (Nat.lt_of_lt_of_le (by decide) hx3.1) (hx3.2.1 0 (by decide)) rfl (b_s_isBetter hB3 (cI a (aW a) k n) k (cI a (aW a) q n) q (by omega) (by omega) (by omega) (by omega)) (fun v1 w1 h1 => ?_)
              obtain ⟨rfl, rfl⟩ := h1
              have hky : (leP a n q < leP a n k ∨ (leP a n k = leP a n q ∧ (suP a n q < suP a n k ∨ (suP a n k = suP a n q ∧ qO k < qO q)))) ↔ kyP a n q < kyP a n k := by
                have o1 := qO_256 k (by omega)
                have o2 := qO_256 q (by omega)
                have l1 : leP a n k ≤ 4 := mLe_le _ _
                have l2 : leP a n q ≤ 4 := mLe_le _ _
                have u1 : suP a n k ≤ 4 * aR a := mSu_le _ _
                have u2 : suP a n q ≤ 4 * aR a := mSu_le _ _
                unfold kyP
                omega
              refine xb_if_eq 102 109 (ab_dd tk_s_placing 54 rfl) rfl (by decide) (fun h99 => ?_) (fun h99 => ?_)
              · refine xn_iinc 112 5 (fun y => [some (.ref 50), some (.int (nI n)), some (.int x), some (.int (nI q)), some (.int (nI (cI a (aW a) q n))), some (.int y), some (.int (nI (cI a (aW a) k n)))]) (k + 1) (ab_dd tk_s_placing 59 rfl) rfl (by decide) rfl (fun _ => rfl) (iinc_p 1) ?_
                refine x_goto 63 (ab_dd tk_s_placing 60 rfl) (by decide) ?_
                exact ih (k + 1) (by omega) (by omega) q (some (.int (nI (cI a (aW a) k n)))) S3 s3 (by omega) (fun q' z => by have y : ¬ kyP a n q < kyP a n k := fun y => h99 (hky.mpr y); by_cases e : q' = k; (rw [e]; omega); exact hbest q' (by omega)) hB3 hn3 hF3 hG3
              · refine x_iload 104 5 (ab_dd tk_s_placing 55 rfl) rfl rfl ?_
                refine x_istore_n 105 [some (.ref 50), some (.int (nI n)), some (.int x), some (.int (nI k)), some (.int (nI (cI a (aW a) q n))), some (.int (nI k)), some (.int (nI (cI a (aW a) k n)))] 3 (ab_dd tk_s_placing 56 rfl) rfl rfl (by decide) rfl ?_
                refine x_iload 107 6 (ab_dd tk_s_placing 57 rfl) rfl rfl ?_
                refine x_istore 109 [some (.ref 50), some (.int (nI n)), some (.int x), some (.int (nI k)), some (.int (nI (cI a (aW a) k n))), some (.int (nI k)), some (.int (nI (cI a (aW a) k n)))] 4 (ab_dd tk_s_placing 58 rfl) rfl (by decide) rfl ?_
                refine xn_iinc 112 5 (fun y => [some (.ref 50), some (.int (nI n)), some (.int x), some (.int (nI k)), some (.int (nI (cI a (aW a) k n))), some (.int y), some (.int (nI (cI a (aW a) k n)))]) (k + 1) (ab_dd tk_s_placing 59 rfl) rfl (by decide) rfl (fun _ => rfl) (iinc_p 1) ?_
                refine x_goto 63 (ab_dd tk_s_placing 60 rfl) (by decide) ?_
                exact ih (k + 1) (by omega) (by omega) k (some (.int (nI (cI a (aW a) k n)))) S3 s3 (by omega) (fun q' z => by have y := hky.mp h99; by_cases e : q' = k; (rw [e]; exact Nat.le_refl _); (have := hbest q' (by omega); omega)) hB3 hn3 hF3 hG3
          exact loop (kFc (aR a) - 1) 1 (by have := kFc_0 (aR a); omega) (by decide) 0 none S1 s1 (by decide) (fun q' z => by rw [show q' = 0 by omega]; exact Nat.le_refl _) hB1 hn1 hF1 (gA.sE hE1)
        · refine x_iconst 49 (-1) (ab_dd tk_s_placing 25 rfl) rfl (by decide) ?_
          exact x_iret (ab_dd tk_s_placing 26 rfl) ⟨-1, ⟨rfl, S, b, st, st2, rfl, fAs.rf, gA.rf, h.up (by omega), ht⟩, Or.inr (Or.inr (Or.inl ⟨hP, (by first | exact hnn | (rw [← ekn]; exact hnn)), h45, rfl⟩))⟩
      · refine x_bipush 37 (-3) (ab_dd tk_s_placing 19 rfl) rfl (by decide) ?_
        exact x_iret (ab_dd tk_s_placing 20 rfl) ⟨-3, ⟨rfl, S, b, st, st2, rfl, fAs.rf, gA.rf, h.up (by omega), ht⟩, Or.inr (Or.inl ⟨hP, fun z => h32 z.2, rfl⟩)⟩
  refine x_iload_n 1 2 (ab_dd tk_s_placing 0 rfl) rfl rfl rfl ?_
  refine x_if_eq 4 25 (ab_dd tk_s_placing 1 rfl) rfl (by decide) (fun h1 => ?_) (fun h1 => ?_)
  · have hP : plO x (aR a) := hpo.mpr (Or.inl h1)
    exact rest hP
  · refine x_iload_n 5 2 (ab_dd tk_s_placing 2 rfl) rfl rfl rfl ?_
    refine x_iconst 6 1 (ab_dd tk_s_placing 3 rfl) rfl (by decide) (x_topn 1 rfl ?_)
    refine x_icmp_eq 9 25 (ab_dd tk_s_placing 4 rfl) rfl (by decide) (fun h6 => ?_) (fun h6 => ?_)
    · have hP : plO x (aR a) := hpo.mpr (Or.inr (Or.inl h6))
      exact rest hP
    · refine x_aload_n 10 0 (ab_dd tk_s_placing 5 rfl) rfl rfl rfl ?_
      refine x_iload_n 11 2 (ab_dd tk_s_placing 6 rfl) rfl rfl rfl ?_
      refine x_i2l 12 (ab_dd tk_s_placing 7 rfl) rfl ?_
      refine x_ldc2 15 (ab_dd tk_s_placing 8 rfl) rfl C_s_246 ?_
      refine x_lsub 16 (ab_dd tk_s_placing 9 rfl) rfl (x_topL (x.toInt64 - 10) rfl ?_)
      refine t_callV 19 M_s_isRider 0 1 [_] (ab_dd tk_s_placing 10 rfl) rfl (by first | decide | omega) K_s_isRider V_s_isRider.1 V_s_isRider.2 L_s_130 rfl (Nat.le_of_ble_eq_true rfl) (by decide) (Nat.lt_of_lt_of_le (by decide) hx.1) (hx.2.1 0 (by decide)) rfl (c_s_isRider (by exact hx) hc hk hR c1 _) (fun v1 w1 h1 => ?_)
      obtain ⟨rfl, rfl⟩ := h1
      refine xb_if_ne 22 25 (ab_dd tk_s_placing 11 rfl) rfl (by decide) (fun h19 => ?_) (fun h19 => ?_)
      · have hP : plO x (aR a) := hpo.mpr (Or.inr (Or.inr h19))
        exact rest hP
      · refine x_bipush 24 (-2) (ab_dd tk_s_placing 12 rfl) rfl (by decide) ?_
        exact x_iret (ab_dd tk_s_placing 13 rfl) ⟨-2, ⟨rfl, S, b, st, st2, rfl, fAs.rf, gA.rf, h.up (by omega), ht⟩, Or.inl ⟨fun z => by rcases hpo.mp z with y | y | y; exact h1 y; exact h6 y; exact h19 y, rfl⟩⟩
