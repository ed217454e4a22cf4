/-! ===== chance, mean ===== -/
theorem kBd.dr {S S' : ab_S} {l : List Nat} {im : Nat → Prop} {a b : Nat → Int32} {c bh nb st st2 u : Nat} (h : kBd S im a c b bh nb st st2 u) (hE : dEq l S S') (hl : ∀ y, y ∈ l → ((84 < y ∧ y ≤ 93) ∨ (104 ≤ y ∧ y ≤ 108)) ∨ y = bh) (h84 : clI S' im 84 c b bh nb st) (hid : idR S') : kBd S' im a c b bh nb st st2 u := by
  obtain ⟨q1, q2⟩ := h.bh
  have h0 := h
  obtain ⟨x1, x2, x3, ⟨x4, x5, x6⟩, x7, x8, ⟨x9, x10, x11, x12⟩, x13, -, x16, -, x18, x19⟩ := h0
  have n : ∀ y, (94 ≤ y ∧ y ≤ 103) ∨ y = 84 → ¬ (y ∈ l ∨ y = 104) := fun y y1 z => by
    rcases z with z | z
    · have := hl y z; omega
    · omega
  have n2 : ∀ y, (94 ≤ y ∧ y ≤ 103) ∨ y = 84 → y ∉ l := fun y y1 z => n y y1 (Or.inl z)
  have him : ∀ y, im y → ¬ (y ∈ l ∨ y = 104) := fun y z w => by
    have e := x4 y z
    rcases w with w | w
    · rcases hl y w with v | v
      · omega
      · rw [v] at z; exact q2 z
    · omega
  exact h.step (gF.dE hE) (x1.d hE) (fun y z => by rcases z with z | z; (have := hl y z; omega); omega) x7 sta.rf x9 x10 h84 (kpX.of (hE.2.2.1 84 (n2 _ (by omega)))) (Nat.le_refl _) (x13.gf (gF.dE hE) (by omega) him (n _ (by omega)) (n _ (by omega)) (n _ (by omega)) (n _ (by omega))) (congrFun (hE.2.2.1 94 (n2 _ (by omega))) 1) hid (Nat.le_refl _) x18 x19
theorem lots_b {nx : Nat → Nat} {R n w M : Nat} {D : Nat → Nat} (hD : ∀ F, sumF (fun v => D v * F v) M = tot nx R F n w) {u : Nat} (hu : u < M) : D u ≤ 10 ^ n := by
  have h1 := hD (fun v => if v = u then 1 else 0)
  have h2 := tot_le (nx := nx) (R := R) (F := fun v => if v = u then 1 else 0) (M := 1) (fun s => by show (if _ then 1 else 0) ≤ 1; split <;> decide) n w
  have h3 := sumF_le1 (f := fun v => D v * (if v = u then 1 else 0)) (j := u) M hu
  rw [if_pos rfl, Nat.mul_one] at h3
  omega
theorem ten_6 {n : Nat} (h : n ≤ 6) : 10 ^ n ≤ 1000000 ∧ 0 < 10 ^ n := ⟨Nat.pow_le_pow_right (by decide) h, Nat.pow_pos (by decide)⟩
def tb_s_chance : List (Nat × Instr × Nat) := [(0, .iload_n 3, 1), (1, .ifCond .lt 8, 3), (4, .iload_n 3, 1), (5, .iconst 1, 1), (6, .if_icmp .le 6, 3), (9, .bipush (-2), 2), (11, .ireturn, 1), (12, .iload_n 1, 1), (13, .i2l, 1), (14, .invokestatic 283, 3), (17, .ifCond .eq 13, 3), (20, .iload_n 2, 1), (21, .ifCond .lt 9, 3), (24, .iload_n 2, 1), (25, .bipush 6, 2), (27, .if_icmp .le 6, 3), (30, .bipush (-3), 2), (32, .ireturn, 1), (33, .aload_n 0, 1), (34, .getfield 87, 3), (37, .aload_n 0, 1), (38, .invokevirtual 163, 3), (41, .aload_n 0, 1), (42, .getfield 27, 3), (45, .getfield 145, 3), (48, .aload_n 0, 1), (49, .getfield 27, 3), (52, .getfield 151, 3), (55, .iload_n 2, 1), (56, .invokevirtual 401, 3), (59, .aload_n 0, 1), (60, .getfield 87, 3), (63, .iload_n 1, 1), (64, .aload_n 0, 1), (65, .getfield 20, 3), (68, .getfield 177, 3), (71, .invokevirtual 405, 3), (74, .aload_n 0, 1), (75, .getfield 87, 3), (78, .getfield 408, 3), (81, .iload_n 3, 1), (82, .invokestatic 411, 3), (85, .ireturn, 1)]
theorem tk_s_chance : ∀ q ∈ tb_s_chance, decode M_s_chance.2.1 q.1 = .ok q.2 := by decide +kernel
theorem p_s_chance {G : ab_G} {S : ab_S} {im : Nat → Prop} {a b : Nat → Int32} {c bh nb st st2 u : Nat} (h : kBd S im a c b bh nb st st2 u) (ht : sdE S 55 (rowT a)) (hu : u + 64 < 2 ^ 20) (k n x : Int32) : ab_C G 7 M_s_chance [.ref 50, .int k, .int n, .int x] (sw S) (fun v w' => pAs S im a c bh nb u 0 0 (some (.int (if (0 ≤ x ∧ x ≤ 1) then (if (0 ≤ k ∧ k ≤ 4) ∧ (0 ≤ n ∧ n ≤ 6) then aPa (tot (aNx a) (aR a) (fWm a (cN k)) (cN n) (aE a)) (10 ^ cN n) x else -3) else -2))) v w') := by
  refine x_enter [some (.ref 50), some (.int k), some (.int n), some (.int x)] (by decide) (Nat.le_of_ble_eq_true rfl) rfl (fun v w' h => by obtain ⟨rfl, -⟩ := h; rfl) ?_
  have hbh := h.bh.1
  have h0 := h
  obtain ⟨hx, hse, kc, ⟨him, hil, h145⟩, ha, hc, ⟨hb1, hb2, hcl, hnb⟩, hcl9, -, hid, -, hu1, hu2⟩ := h0
  have h40 : sI S 55 3 = a 40 := ht.2.2.2.1.trans ha.1.m40.1.symm
  have hca := hcl.1.sta hb2.sy
  obtain ⟨hk, c1, -⟩ := hca
  have hR := ha.1.R.2
  have h50 : 50 ≤ sn S := by omega
  obtain ⟨hq0, hw0, hE0⟩ := rowT_in ha.1
  have hw6 : aW a < 625 := by have := p5_6 hR; omega
  have hq24 := Nat.lt_of_lt_of_le hq0 (kFc_le (aR a))
  refine x_iload_n 1 3 (ab_dd tk_s_chance 0 rfl) rfl rfl rfl ?_
  refine x_if_lt 4 9 (ab_dd tk_s_chance 1 rfl) rfl (by decide) (fun h1 => ?_) (fun h1 => ?_)
  · refine x_bipush 11 (-2) (ab_dd tk_s_chance 5 rfl) rfl (by decide) ?_
    rw [if_neg (fun z => absurd h1 (Int32.not_lt.mpr z.1))]
    exact x_iret (ab_dd tk_s_chance 6 rfl) ⟨rfl, S, b, st, st2, rfl, fAs.rf, gA.rf, h.up (by omega), ht⟩
  · refine x_iload_n 5 3 (ab_dd tk_s_chance 2 rfl) rfl rfl rfl ?_
    refine x_iconst 6 1 (ab_dd tk_s_chance 3 rfl) rfl (by decide) (x_topn 1 rfl ?_)
    refine x_icmp_le 9 12 (ab_dd tk_s_chance 4 rfl) rfl (by decide) (fun h6 => ?_) (fun h6 => ?_)
    · refine x_iload_n 13 1 (ab_dd tk_s_chance 7 rfl) rfl rfl rfl ?_
      refine x_i2l 14 (ab_dd tk_s_chance 8 rfl) rfl ?_
      refine x_callS 17 M_s_isWarmth 0 1 [_] (ab_dd tk_s_chance 9 rfl) rfl (by first | decide | omega) K_s_isWarmth T_s_isWarmth L_s_283 rfl (Nat.le_of_ble_eq_true rfl) (cx_isWarmth k) (fun v1 w1 h1 => ?_)
      obtain ⟨rfl, rfl⟩ := h1
      refine xb_if_eq 20 30 (ab_dd tk_s_chance 10 rfl) rfl (by decide) (fun h17 => ?_) (fun h17 => ?_)
      · refine x_bipush 32 (-3) (ab_dd tk_s_chance 16 rfl) rfl (by decide) ?_
        rw [if_pos ⟨Int32.not_lt.mp h1, h6⟩, if_neg (fun z => h17 z.1)]
        exact x_iret (ab_dd tk_s_chance 17 rfl) ⟨rfl, S, b, st, st2, rfl, fAs.rf, gA.rf, h.up (by omega), ht⟩
      · refine x_iload_n 21 2 (ab_dd tk_s_chance 11 rfl) rfl rfl rfl ?_
        refine x_if_lt 24 30 (ab_dd tk_s_chance 12 rfl) rfl (by decide) (fun h21 => ?_) (fun h21 => ?_)
        · refine x_bipush 32 (-3) (ab_dd tk_s_chance 16 rfl) rfl (by decide) ?_
          rw [if_pos ⟨Int32.not_lt.mp h1, h6⟩, if_neg (fun z => absurd h21 (Int32.not_lt.mpr z.2.1))]
          exact x_iret (ab_dd tk_s_chance 17 rfl) ⟨rfl, S, b, st, st2, rfl, fAs.rf, gA.rf, h.up (by omega), ht⟩
        · refine x_iload_n 25 2 (ab_dd tk_s_chance 13 rfl) rfl rfl rfl ?_
          refine x_bipush 27 6 (ab_dd tk_s_chance 14 rfl) rfl (by decide) (x_topn 6 rfl ?_)
          refine x_icmp_le 30 33 (ab_dd tk_s_chance 15 rfl) rfl (by decide) (fun h27 => ?_) (fun h27 => ?_)
          · rw [if_pos ⟨Int32.not_lt.mp h1, h6⟩, if_pos ⟨h17, Int32.not_lt.mp h21, h27⟩]
            obtain ⟨q, hq, ekq, enq⟩ := in_get (n := 4) (by decide) h17
            rw [show some (Value.int k) = some (Value.int (nI q)) by rw [ekq], enq]
            obtain ⟨m, hm, ekm, enm⟩ := in_get (n := 6) (by decide) ⟨Int32.not_lt.mp h21, h27⟩
            rw [show some (Value.int n) = some (Value.int (nI m)) by rw [ekm], enm]
            refine x_aload_n 34 0 (ab_dd tk_s_chance 18 rfl) rfl rfl rfl ?_
            refine t_getP 37 104 (ab_dd tk_s_chance 19 rfl) rfl F_s_87 (by decide) (Nat.lt_of_lt_of_le (by decide) hx.1) (hx.2.1 0 (by decide)) rfl (hx.2.2 (50, 14, 104) (by decide)) ?_
            refine x_aload_n 38 0 (ab_dd tk_s_chance 20 rfl) rfl rfl rfl ?_
            refine t_callV 41 M_s_lawsNow 1 0 [] (ab_dd tk_s_chance 21 rfl) rfl (by first | decide | omega) K_s_lawsNow V_s_lawsNow.1 V_s_lawsNow.2 L_s_163 rfl (Nat.le_of_ble_eq_true rfl) (by decide) (Nat.lt_of_lt_of_le (by decide) hx.1) (hx.2.1 0 (by decide)) rfl (b_s_lawsNow h ht (by omega)) (fun v1 w1 h1 => ?_)
            obtain ⟨rfl, S1, s1, rfl, hE1, hB1, hn1⟩ := h1
            have hB1c := hB1
            obtain ⟨hx1, hse1, kc1, -, -, -, ⟨-, -, hcl1, -⟩, -, -, -, -, hsu1, -⟩ := hB1c
            have hF1 : fAs im bh S S1 := fAs.of (gF.sE hE1) (by omega) (fun y _ z => by have := List.mem_singleton.mp z; omega) (by omega)
            refine x_aload_n 42 0 (ab_dd tk_s_chance 22 rfl) rfl rfl rfl ?_
            refine t_getP 45 55 (ab_dd tk_s_chance 23 rfl) rfl F_s_27 (by decide) (Nat.lt_of_lt_of_le (by decide) hx1.1) (hx1.2.1 0 (by decide)) rfl (hx1.2.2 (50, 3, 55) (by decide)) ?_
            refine t_getI 48 (ab_dd tk_s_chance 24 rfl) rfl F_s_145 (by decide) (Nat.lt_of_lt_of_le (by decide) hx1.1) (hx1.2.1 5 (by decide)) rfl (x_topn (aW a) hn1.2.1 ?_)
            refine x_aload_n 49 0 (ab_dd tk_s_chance 25 rfl) rfl rfl rfl ?_
            refine t_getP 52 55 (ab_dd tk_s_chance 26 rfl) rfl F_s_27 (by decide) (Nat.lt_of_lt_of_le (by decide) hx1.1) (hx1.2.1 0 (by decide)) rfl (hx1.2.2 (50, 3, 55) (by decide)) ?_
            refine t_getI 55 (ab_dd tk_s_chance 27 rfl) rfl F_s_151 (by decide) (Nat.lt_of_lt_of_le (by decide) hx1.1) (hx1.2.1 5 (by decide)) rfl (x_topn (aQ a) hn1.2.2.1 ?_)
            refine x_iload_n 56 2 (ab_dd tk_s_chance 28 rfl) rfl rfl rfl ?_
            obtain ⟨ca, la, hca0, hla0, hp0⟩ := hB1.2.2.2.2.2.2.2.2.2.1
            refine t_callV 59 M_id_drawLots 4 4 [_, _, _, _] (ab_dd tk_s_chance 29 rfl) rfl (by first | decide | omega) K_id_drawLots V_id_drawLots.1 V_id_drawLots.2 L_s_401 rfl (Nat.le_of_ble_eq_true rfl) (by decide) (Nat.lt_of_lt_of_le (by decide) hx1.1) (hx1.2.1 54 (by decide)) rfl (c_id_drawLots hx1 hse1 kc1 him (Or.inl rfl) hcl1 ha hca0 hla0 hp0 (aW a) (aQ a) m hw0 hq0 hm) (fun v1 w1 h1 => ?_)
            obtain ⟨rfl, S2, ca2, la2, D, rfl, hE2, hcl2, g1, g2, g3, g4, g5, g6⟩ := h1
            have hB2 := hB1.dr hE2 (fun y hy => by simp only [List.mem_cons, List.not_mem_nil, or_false] at hy; omega) hcl2 ⟨ca2, la2, g1, g2, g3⟩
            have hx2 : xSh S2 := hB2.1
            have kc2 := hB2.2.2.1
            have hc2 := hB2.2.2.2.2.2.1
            obtain ⟨hk2, c21, -⟩ := hcl2.1
            have g3b : ca2 = 107 ∨ ca2 = 108 := by omega
            have hF2 : fAs im bh S1 S2 := fAs.of (gF.dE hE2) (Nat.lt_of_lt_of_le (by decide) hx1.1) (fun y _ z => by simp only [List.mem_cons, List.not_mem_nil, or_false] at z; omega) (by omega)
            have hn2 : sdE S2 55 (rowT a) := hn1.gf (gF.dE hE2) (Nat.lt_of_lt_of_le (by decide) hx1.1) (fun z => by simp only [List.mem_cons, List.not_mem_nil, or_false] at z; omega)
            have h10 := ten_6 hm
            have hDb : ∀ u, u < 5 ^ aR a → D u < 2 ^ 31 := fun u hu => by have := lots_b g5 hu; omega
            have eTot : sumF (fun v => D v * (if q ≤ mLe v (aR a) then 1 else 0)) (5 ^ aR a) = tot (aNx a) (aR a) (fWm a q) m (aE a) := by
              rw [g5 (fun v => if q ≤ mLe v (aR a) then 1 else 0), hE0]
              refine (tot_cSt hR hq0 (fun w hw => ?_) m (aW a) hw0).symm
              have hw6 : w < 625 := by have := p5_6 hR; omega
              show (if q ≤ mLe (cSt (aR a) w (aQ a)) (aR a) then 1 else 0) = _
              rw [cSt_le hw6]
            have hTb : tot (aNx a) (aR a) (fWm a q) m (aE a) < 2 ^ 31 := by
              have := tot_le (nx := aNx a) (R := aR a) (F := fWm a q) (M := 1) (fun s => by show (if _ then 1 else 0) ≤ 1; split <;> decide) m (aE a); omega
            refine x_aload_n 60 0 (ab_dd tk_s_chance 30 rfl) rfl rfl rfl ?_
            refine t_getP 63 104 (ab_dd tk_s_chance 31 rfl) rfl F_s_87 (by decide) (Nat.lt_of_lt_of_le (by decide) hx2.1) (hx2.2.1 0 (by decide)) rfl (hx2.2.2 (50, 14, 104) (by decide)) ?_
            refine x_iload_n 64 1 (ab_dd tk_s_chance 32 rfl) rfl rfl rfl ?_
            refine x_aload_n 65 0 (ab_dd tk_s_chance 33 rfl) rfl rfl rfl ?_
            refine t_getP 68 c (ab_dd tk_s_chance 34 rfl) rfl F_s_20 (by decide) (Nat.lt_of_lt_of_le (by decide) hx2.1) (hx2.2.1 0 (by decide)) rfl hc2 ?_
            refine t_getI 71 (ab_dd tk_s_chance 35 rfl) rfl F_s_177 hk2.1 (Nat.lt_of_le_of_lt (Nat.le_add_right c 2) hk2.2.1) hk2.2.2.1 rfl (x_topn (aR a) c21 ?_)
            refine t_callV 74 M_id_casesWarm 2 2 [_, _] (ab_dd tk_s_chance 36 rfl) rfl (by first | decide | omega) K_id_casesWarm V_id_casesWarm.1 V_id_casesWarm.2 L_s_405 rfl (Nat.le_of_ble_eq_true rfl) (by decide) (Nat.lt_of_lt_of_le (by decide) hx2.1) (hx2.2.1 54 (by decide)) rfl (c_id_casesWarm hx2 kc2 g1 g3b g4 hR hDb q (by omega)) (fun v1 w1 h1 => ?_)
            obtain ⟨rfl, rfl⟩ := h1
            rw [eTot]
            refine x_aload_n 75 0 (ab_dd tk_s_chance 37 rfl) rfl rfl rfl ?_
            refine t_getP 78 104 (ab_dd tk_s_chance 38 rfl) rfl F_s_87 (by decide) (Nat.lt_of_lt_of_le (by decide) hx2.1) (hx2.2.1 0 (by decide)) rfl (hx2.2.2 (50, 14, 104) (by decide)) ?_
            refine t_getI 81 (ab_dd tk_s_chance 39 rfl) rfl F_s_408 (by decide) (Nat.lt_of_lt_of_le (by decide) hx2.1) (hx2.2.1 54 (by decide)) rfl (x_topn (10 ^ m) g6 ?_)
            refine x_iload_n 82 3 (ab_dd tk_s_chance 40 rfl) rfl rfl rfl ?_
            refine x_callS 85 M_s_inLowestTerms 0 3 [_, _, _] (ab_dd tk_s_chance 41 rfl) rfl (by first | decide | omega) K_s_inLowestTerms T_s_inLowestTerms L_s_411 rfl (Nat.le_of_ble_eq_true rfl) (c_s_inLowestTerms (tot (aNx a) (aR a) (fWm a q) m (aE a)) (10 ^ m) hTb (by omega) (by omega) x) (fun v1 w1 h1 => ?_)
            obtain ⟨rfl, rfl⟩ := h1
            exact x_iret (ab_dd tk_s_chance 42 rfl) ⟨rfl, S2, a, s1, st2, rfl, hF1.tr hF2, (gA.sE hE1).tr (gA.dE hE2), hB2.up (by omega), hn2⟩
          · refine x_bipush 32 (-3) (ab_dd tk_s_chance 16 rfl) rfl (by decide) ?_
            rw [if_pos ⟨Int32.not_lt.mp h1, h6⟩, if_neg (fun z => h27 z.2.2)]
            exact x_iret (ab_dd tk_s_chance 17 rfl) ⟨rfl, S, b, st, st2, rfl, fAs.rf, gA.rf, h.up (by omega), ht⟩
    · refine x_bipush 11 (-2) (ab_dd tk_s_chance 5 rfl) rfl (by decide) ?_
      rw [if_neg (fun z => h6 z.2)]
      exact x_iret (ab_dd tk_s_chance 6 rfl) ⟨rfl, S, b, st, st2, rfl, fAs.rf, gA.rf, h.up (by omega), ht⟩
def tb_s_mean : List (Nat × Instr × Nat) := [(0, .iload_n 2, 1), (1, .ifCond .lt 8, 3), (4, .iload_n 2, 1), (5, .iconst 1, 1), (6, .if_icmp .le 6, 3), (9, .bipush (-2), 2), (11, .ireturn, 1), (12, .iload_n 1, 1), (13, .ifCond .lt 9, 3), (16, .iload_n 1, 1), (17, .bipush 6, 2), (19, .if_icmp .le 6, 3), (22, .bipush (-3), 2), (24, .ireturn, 1), (25, .aload_n 0, 1), (26, .getfield 87, 3), (29, .aload_n 0, 1), (30, .invokevirtual 163, 3), (33, .aload_n 0, 1), (34, .getfield 27, 3), (37, .getfield 145, 3), (40, .aload_n 0, 1), (41, .getfield 27, 3), (44, .getfield 151, 3), (47, .iload_n 1, 1), (48, .invokevirtual 401, 3), (51, .aload_n 0, 1), (52, .getfield 87, 3), (55, .aload_n 0, 1), (56, .getfield 20, 3), (59, .getfield 177, 3), (62, .invokevirtual 414, 3), (65, .aload_n 0, 1), (66, .getfield 87, 3), (69, .getfield 408, 3), (72, .iload_n 2, 1), (73, .invokestatic 411, 3), (76, .ireturn, 1)]
theorem tk_s_mean : ∀ q ∈ tb_s_mean, decode M_s_mean.2.1 q.1 = .ok q.2 := by decide +kernel
theorem p_s_mean {G : ab_G} {S : ab_S} {im : Nat → Prop} {a b : Nat → Int32} {c bh nb st st2 u : Nat} (h : kBd S im a c b bh nb st st2 u) (ht : sdE S 55 (rowT a)) (hu : u + 64 < 2 ^ 20) (n x : Int32) : ab_C G 7 M_s_mean [.ref 50, .int n, .int x] (sw S) (fun v w' => pAs S im a c bh nb u 0 0 (some (.int (if (0 ≤ x ∧ x ≤ 1) then (if (0 ≤ n ∧ n ≤ 6) then aPa (tot (aNx a) (aR a) (fSm a) (cN n) (aE a)) (10 ^ cN n) x else -3) else -2))) v w') := by
  refine x_enter [some (.ref 50), some (.int n), some (.int x)] (by decide) (Nat.le_of_ble_eq_true rfl) rfl (fun v w' h => by obtain ⟨rfl, -⟩ := h; rfl) ?_
  have hbh := h.bh.1
  have h0 := h
  obtain ⟨hx, hse, kc, ⟨him, hil, h145⟩, ha, hc, ⟨hb1, hb2, hcl, hnb⟩, hcl9, -, hid, -, hu1, hu2⟩ := h0
  have h40 : sI S 55 3 = a 40 := ht.2.2.2.1.trans ha.1.m40.1.symm
  have hca := hcl.1.sta hb2.sy
  obtain ⟨hk, c1, -⟩ := hca
  have hR := ha.1.R.2
  have h50 : 50 ≤ sn S := by omega
  obtain ⟨hq0, hw0, hE0⟩ := rowT_in ha.1
  have hw6 : aW a < 625 := by have := p5_6 hR; omega
  have hq24 := Nat.lt_of_lt_of_le hq0 (kFc_le (aR a))
  refine x_iload_n 1 2 (ab_dd tk_s_mean 0 rfl) rfl rfl rfl ?_
  refine x_if_lt 4 9 (ab_dd tk_s_mean 1 rfl) rfl (by decide) (fun h1 => ?_) (fun h1 => ?_)
  · refine x_bipush 11 (-2) (ab_dd tk_s_mean 5 rfl) rfl (by decide) ?_
    rw [if_neg (fun z => absurd h1 (Int32.not_lt.mpr z.1))]
    exact x_iret (ab_dd tk_s_mean 6 rfl) ⟨rfl, S, b, st, st2, rfl, fAs.rf, gA.rf, h.up (by omega), ht⟩
  · refine x_iload_n 5 2 (ab_dd tk_s_mean 2 rfl) rfl rfl rfl ?_
    refine x_iconst 6 1 (ab_dd tk_s_mean 3 rfl) rfl (by decide) (x_topn 1 rfl ?_)
    refine x_icmp_le 9 12 (ab_dd tk_s_mean 4 rfl) rfl (by decide) (fun h6 => ?_) (fun h6 => ?_)
    · refine x_iload_n 13 1 (ab_dd tk_s_mean 7 rfl) rfl rfl rfl ?_
      refine x_if_lt 16 22 (ab_dd tk_s_mean 8 rfl) rfl (by decide) (fun h13 => ?_) (fun h13 => ?_)
      · refine x_bipush 24 (-3) (ab_dd tk_s_mean 12 rfl) rfl (by decide) ?_
        rw [if_pos ⟨Int32.not_lt.mp h1, h6⟩, if_neg (fun z => absurd h13 (Int32.not_lt.mpr z.1))]
        exact x_iret (ab_dd tk_s_mean 13 rfl) ⟨rfl, S, b, st, st2, rfl, fAs.rf, gA.rf, h.up (by omega), ht⟩
      · refine x_iload_n 17 1 (ab_dd tk_s_mean 9 rfl) rfl rfl rfl ?_
        refine x_bipush 19 6 (ab_dd tk_s_mean 10 rfl) rfl (by decide) (x_topn 6 rfl ?_)
        refine x_icmp_le 22 25 (ab_dd tk_s_mean 11 rfl) rfl (by decide) (fun h19 => ?_) (fun h19 => ?_)
        · rw [if_pos ⟨Int32.not_lt.mp h1, h6⟩, if_pos ⟨Int32.not_lt.mp h13, h19⟩]
          obtain ⟨m, hm, ekm, enm⟩ := in_get (n := 6) (by decide) ⟨Int32.not_lt.mp h13, h19⟩
          rw [show some (Value.int n) = some (Value.int (nI m)) by rw [ekm], enm]
          refine x_aload_n 26 0 (ab_dd tk_s_mean 14 rfl) rfl rfl rfl ?_
          refine t_getP 29 104 (ab_dd tk_s_mean 15 rfl) rfl F_s_87 (by decide) (Nat.lt_of_lt_of_le (by decide) hx.1) (hx.2.1 0 (by decide)) rfl (hx.2.2 (50, 14, 104) (by decide)) ?_
          refine x_aload_n 30 0 (ab_dd tk_s_mean 16 rfl) rfl rfl rfl ?_
          refine t_callV 33 M_s_lawsNow 1 0 [] (ab_dd tk_s_mean 17 rfl) rfl (by first | decide | omega) K_s_lawsNow V_s_lawsNow.1 V_s_lawsNow.2 L_s_163 rfl (Nat.le_of_ble_eq_true rfl) (by decide) (Nat.lt_of_lt_of_le (by decide) hx.1) (hx.2.1 0 (by decide)) rfl (b_s_lawsNow h ht (by omega)) (fun v1 w1 h1 => ?_)
          obtain ⟨rfl, S1, s1, rfl, hE1, hB1, hn1⟩ := h1
          have hB1c := hB1
          obtain ⟨hx1, hse1, kc1, -, -, -, ⟨-, -, hcl1, -⟩, -, -, -, -, hsu1, -⟩ := hB1c
          have hF1 : fAs im bh S S1 := fAs.of (gF.sE hE1) (by omega) (fun y _ z => by have := List.mem_singleton.mp z; omega) (by omega)
          refine x_aload_n 34 0 (ab_dd tk_s_mean 18 rfl) rfl rfl rfl ?_
          refine t_getP 37 55 (ab_dd tk_s_mean 19 rfl) rfl F_s_27 (by decide) (Nat.lt_of_lt_of_le (by decide) hx1.1) (hx1.2.1 0 (by decide)) rfl (hx1.2.2 (50, 3, 55) (by decide)) ?_
          refine t_getI 40 (ab_dd tk_s_mean 20 rfl) rfl F_s_145 (by decide) (Nat.lt_of_lt_of_le (by decide) hx1.1) (hx1.2.1 5 (by decide)) rfl (x_topn (aW a) hn1.2.1 ?_)
          refine x_aload_n 41 0 (ab_dd tk_s_mean 21 rfl) rfl rfl rfl ?_
          refine t_getP 44 55 (ab_dd tk_s_mean 22 rfl) rfl F_s_27 (by decide) (Nat.lt_of_lt_of_le (by decide) hx1.1) (hx1.2.1 0 (by decide)) rfl (hx1.2.2 (50, 3, 55) (by decide)) ?_
          refine t_getI 47 (ab_dd tk_s_mean 23 rfl) rfl F_s_151 (by decide) (Nat.lt_of_lt_of_le (by decide) hx1.1) (hx1.2.1 5 (by decide)) rfl (x_topn (aQ a) hn1.2.2.1 ?_)
          refine x_iload_n 48 1 (ab_dd tk_s_mean 24 rfl) rfl rfl rfl ?_
          obtain ⟨ca, la, hca0, hla0, hp0⟩ := hB1.2.2.2.2.2.2.2.2.2.1
          refine t_callV 51 M_id_drawLots 4 4 [_, _, _, _] (ab_dd tk_s_mean 25 rfl) rfl (by first | decide | omega) K_id_drawLots V_id_drawLots.1 V_id_drawLots.2 L_s_401 rfl (Nat.le_of_ble_eq_true rfl) (by decide) (Nat.lt_of_lt_of_le (by decide) hx1.1) (hx1.2.1 54 (by decide)) rfl (c_id_drawLots hx1 hse1 kc1 him (Or.inl rfl) hcl1 ha hca0 hla0 hp0 (aW a) (aQ a) m hw0 hq0 hm) (fun v1 w1 h1 => ?_)
          obtain ⟨rfl, S2, ca2, la2, D, rfl, hE2, hcl2, g1, g2, g3, g4, g5, g6⟩ := h1
          have hB2 := hB1.dr hE2 (fun y hy => by simp only [List.mem_cons, List.not_mem_nil, or_false] at hy; omega) hcl2 ⟨ca2, la2, g1, g2, g3⟩
          have hx2 : xSh S2 := hB2.1
          have kc2 := hB2.2.2.1
          have hc2 := hB2.2.2.2.2.2.1
          obtain ⟨hk2, c21, -⟩ := hcl2.1
          have g3b : ca2 = 107 ∨ ca2 = 108 := by omega
          have hF2 : fAs im bh S1 S2 := fAs.of (gF.dE hE2) (Nat.lt_of_lt_of_le (by decide) hx1.1) (fun y _ z => by simp only [List.mem_cons, List.not_mem_nil, or_false] at z; omega) (by omega)
          have hn2 : sdE S2 55 (rowT a) := hn1.gf (gF.dE hE2) (Nat.lt_of_lt_of_le (by decide) hx1.1) (fun z => by simp only [List.mem_cons, List.not_mem_nil, or_false] at z; omega)
          have h10 := ten_6 hm
          have hDb : ∀ u, u < 5 ^ aR a → D u < 2 ^ 31 := fun u hu => by have := lots_b g5 hu; omega
          have eTot : sumF (fun v => D v * (mSu v (aR a))) (5 ^ aR a) = tot (aNx a) (aR a) (fSm a) m (aE a) := by
            rw [g5 (fun v => mSu v (aR a)), hE0]
            refine (tot_cSt hR hq0 (fun w hw => ?_) m (aW a) hw0).symm
            have hw6 : w < 625 := by have := p5_6 hR; omega
            show mSu (cSt (aR a) w (aQ a)) (aR a) = _
            rw [cSt_su hw6]
          have hTb : tot (aNx a) (aR a) (fSm a) m (aE a) < 2 ^ 31 := by
            have := tot_le (nx := aNx a) (R := aR a) (F := fSm a) (M := 16) (fun s => by have := mSu_le s (aR a); show mSu s (aR a) ≤ 16; omega) m (aE a); omega
          refine x_aload_n 52 0 (ab_dd tk_s_mean 26 rfl) rfl rfl rfl ?_
          refine t_getP 55 104 (ab_dd tk_s_mean 27 rfl) rfl F_s_87 (by decide) (Nat.lt_of_lt_of_le (by decide) hx2.1) (hx2.2.1 0 (by decide)) rfl (hx2.2.2 (50, 14, 104) (by decide)) ?_
          refine x_aload_n 56 0 (ab_dd tk_s_mean 28 rfl) rfl rfl rfl ?_
          refine t_getP 59 c (ab_dd tk_s_mean 29 rfl) rfl F_s_20 (by decide) (Nat.lt_of_lt_of_le (by decide) hx2.1) (hx2.2.1 0 (by decide)) rfl hc2 ?_
          refine t_getI 62 (ab_dd tk_s_mean 30 rfl) rfl F_s_177 hk2.1 (Nat.lt_of_le_of_lt (Nat.le_add_right c 2) hk2.2.1) hk2.2.2.1 rfl (x_topn (aR a) c21 ?_)
          refine t_callV 65 M_id_warmthInAllCases 2 1 [_] (ab_dd tk_s_mean 31 rfl) rfl (by first | decide | omega) K_id_warmthInAllCases V_id_warmthInAllCases.1 V_id_warmthInAllCases.2 L_s_414 rfl (Nat.le_of_ble_eq_true rfl) (by decide) (Nat.lt_of_lt_of_le (by decide) hx2.1) (hx2.2.1 54 (by decide)) rfl (c_id_warmthInAllCases hx2 kc2 g1 g3b g4 hR hDb) (fun v1 w1 h1 => ?_)
          obtain ⟨rfl, rfl⟩ := h1
          rw [eTot]
          refine x_aload_n 66 0 (ab_dd tk_s_mean 32 rfl) rfl rfl rfl ?_
          refine t_getP 69 104 (ab_dd tk_s_mean 33 rfl) rfl F_s_87 (by decide) (Nat.lt_of_lt_of_le (by decide) hx2.1) (hx2.2.1 0 (by decide)) rfl (hx2.2.2 (50, 14, 104) (by decide)) ?_
          refine t_getI 72 (ab_dd tk_s_mean 34 rfl) rfl F_s_408 (by decide) (Nat.lt_of_lt_of_le (by decide) hx2.1) (hx2.2.1 54 (by decide)) rfl (x_topn (10 ^ m) g6 ?_)
          refine x_iload_n 73 2 (ab_dd tk_s_mean 35 rfl) rfl rfl rfl ?_
          refine x_callS 76 M_s_inLowestTerms 0 3 [_, _, _] (ab_dd tk_s_mean 36 rfl) rfl (by first | decide | omega) K_s_inLowestTerms T_s_inLowestTerms L_s_411 rfl (Nat.le_of_ble_eq_true rfl) (c_s_inLowestTerms (tot (aNx a) (aR a) (fSm a) m (aE a)) (10 ^ m) hTb (by omega) (by omega) x) (fun v1 w1 h1 => ?_)
          obtain ⟨rfl, rfl⟩ := h1
          exact x_iret (ab_dd tk_s_mean 37 rfl) ⟨rfl, S2, a, s1, st2, rfl, hF1.tr hF2, (gA.sE hE1).tr (gA.dE hE2), hB2.up (by omega), hn2⟩
        · refine x_bipush 24 (-3) (ab_dd tk_s_mean 12 rfl) rfl (by decide) ?_
          rw [if_pos ⟨Int32.not_lt.mp h1, h6⟩, if_neg (fun z => h19 z.2)]
          exact x_iret (ab_dd tk_s_mean 13 rfl) ⟨rfl, S, b, st, st2, rfl, fAs.rf, gA.rf, h.up (by omega), ht⟩
    · refine x_bipush 11 (-2) (ab_dd tk_s_mean 5 rfl) rfl (by decide) ?_
      rw [if_neg (fun z => h6 z.2)]
      exact x_iret (ab_dd tk_s_mean 6 rfl) ⟨rfl, S, b, st, st2, rfl, fAs.rf, gA.rf, h.up (by omega), ht⟩
