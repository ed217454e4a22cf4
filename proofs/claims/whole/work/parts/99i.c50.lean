/-! ===== settling asked ===== -/
def tb_s_when : List (Nat × Instr × Nat) := [(0, .iload_n 1, 1), (1, .i2l, 1), (2, .invokestatic 283, 3), (5, .ifCond .ne 6, 3), (8, .bipush (-3), 2), (10, .ireturn, 1), (11, .aload_n 0, 1), (12, .invokevirtual 270, 3), (15, .iload_n 1, 1), (16, .aload_n 0, 1), (17, .getfield 20, 3), (20, .getfield 177, 3), (23, .invokevirtual 286, 3), (26, .ireturn, 1)]
theorem tk_s_when : ∀ q ∈ tb_s_when, decode M_s_when.2.1 q.1 = .ok q.2 := by decide +kernel
theorem p_s_when {G : ab_G} {S : ab_S} {im : Nat → Prop} {a b : Nat → Int32} {c bh nb st st2 u : Nat} (h : kBd S im a c b bh nb st st2 u) (ht : sdE S 55 (rowT a)) (hu : u + 64 < 2 ^ 20) (k : Int32) : ab_C G 7 M_s_when [.ref 50, .int k] (sw S) (fun v w' => ∃ v0, pAs S im a c bh nb u 0 0 (some (.int v0)) v w' ∧ ((¬ (0 ≤ k ∧ k ≤ 4) ∧ v0 = -3) ∨ ((0 ≤ k ∧ k ≤ 4) ∧ fstM (fun m => cN k ≤ mLe (aI a (a 40) m) (aR a)) v0))) := by
  refine x_enter [some (.ref 50), some (.int k)] (by decide) (Nat.le_of_ble_eq_true rfl) rfl (fun v w' h => by obtain ⟨v0, ⟨rfl, -⟩, -⟩ := h; rfl) ?_
  have hbh := h.bh.1
  have h0 := h
  obtain ⟨hx, hse, kc, ⟨him, hil, h145⟩, ha, hc, ⟨hb1, hb2, hcl, hnb⟩, hcl9, -, hid, -, hu1, hu2⟩ := h0
  have h40 : sI S 55 3 = a 40 := ht.2.2.2.1.trans ha.1.m40.1.symm
  have hca := hcl.1.sta hb2.sy
  obtain ⟨hk, c1, -⟩ := hca
  have hR := ha.1.R.2
  have h50 : 50 ≤ sn S := by omega
  refine x_iload_n 1 1 (ab_dd tk_s_when 0 rfl) rfl rfl rfl ?_
  refine x_i2l 2 (ab_dd tk_s_when 1 rfl) rfl ?_
  refine x_callS 5 M_s_isWarmth 0 1 [_] (ab_dd tk_s_when 2 rfl) rfl (by first | decide | omega) K_s_isWarmth T_s_isWarmth L_s_283 rfl (Nat.le_of_ble_eq_true rfl) (cx_isWarmth k) (fun v1 w1 h1 => ?_)
  obtain ⟨rfl, rfl⟩ := h1
  refine xb_if_ne 8 11 (ab_dd tk_s_when 3 rfl) rfl (by decide) (fun h5 => ?_) (fun h5 => ?_)
  · have hkn := h5
    obtain ⟨q, hq, ekq, enq⟩ := in_get (n := 4) (by decide) h5
    rw [show some (Value.int k) = some (Value.int (nI q)) by rw [ekq], enq]
    refine x_aload_n 12 0 (ab_dd tk_s_when 6 rfl) rfl rfl rfl ?_
    refine t_callV 15 M_s_settled 5 0 [] (ab_dd tk_s_when 7 rfl) rfl (by first | decide | omega) K_s_settled V_s_settled.1 V_s_settled.2 L_s_270 rfl (Nat.le_of_ble_eq_true rfl) (by decide) (Nat.lt_of_lt_of_le (by decide) hx.1) (hx.2.1 0 (by decide)) rfl (b_s_settled h ht (by omega)) (fun v1 w1 h1 => ?_)
    obtain ⟨rfl, S1, s1, n0, t0, rfl, hE1, hB1, hn1, f1, f2, f3, f4, f5⟩ := h1
    have hB1c := hB1
    obtain ⟨hx1, hse1, kc1, ⟨-, -, h1451⟩, -, hc1, ⟨-, -, hcl1, -⟩, -⟩ := hB1c
    have h501 : 50 ≤ sn S1 := by omega
    obtain ⟨hk1, c11, -⟩ := hcl1.1
    have hF1 : fAs im bh S S1 := fAs.of (gF.sE hE1) (by omega) (fun y _ z => by simp only [List.mem_cons, List.not_mem_nil, or_false] at z; omega) (by omega)
    have hfI : ∀ k, cI a (aW a) (aQ a) (k + 1) = (fun s => cB a s (aQ a)) (cI a (aW a) (aQ a) k) := fun _ => rfl
    have hcI : ∀ i, cI a (aW a) (aQ a) i < 625 := fun i => by have := cI_lt hR (rowT_in ha.1).1 (rowT_in ha.1).2.1 i; have := p5_6 hR; omega
    have ht0 : t0 ≤ 625 := by have := f1.1; omega
    refine x_iload_n 16 1 (ab_dd tk_s_when 8 rfl) rfl rfl rfl ?_
    refine x_aload_n 17 0 (ab_dd tk_s_when 9 rfl) rfl rfl rfl ?_
    refine t_getP 20 c (ab_dd tk_s_when 10 rfl) rfl F_s_20 (by decide) (Nat.lt_of_lt_of_le (by decide) hx1.1) (hx1.2.1 0 (by decide)) rfl hc1 ?_
    refine t_getI 23 (ab_dd tk_s_when 11 rfl) rfl F_s_177 hk1.1 (Nat.lt_of_le_of_lt (Nat.le_add_right c 2) hk1.2.1) hk1.2.2.1 rfl (x_topn (aR a) c11 ?_)
    refine t_callV 26 M_id_firstWarm 2 2 [_, _] (ab_dd tk_s_when 12 rfl) rfl (by first | decide | omega) K_id_firstWarm V_id_firstWarm.1 V_id_firstWarm.2 L_s_286 rfl (Nat.le_of_ble_eq_true rfl) (by decide) (Nat.lt_of_lt_of_le (by decide) hx1.1) (hx1.2.1 54 (by decide)) rfl (c_id_firstWarm (g := fun s => cB a s (aQ a)) hx1 hfI f1 f2 f3 f4 f5 hcI q (aR a) (by omega) hR) (fun v1 w1 h1 => ?_)
    obtain ⟨⟨v0, rfl, hv0⟩, rfl⟩ := h1
    have hv1 : fstM (fun m => q ≤ mLe (aI a (a 40) m) (aR a)) v0 := by
      have e : (fun m => q ≤ mLe (aI a (a 40) m) (aR a)) = (fun m => q ≤ mLe (cI a (aW a) (aQ a) m) (aR a)) := by
        funext m
        rw [aI_cI ha.1, cSt_le (hcI m)]
      rw [e]
      exact hv0
    exact x_iret (ab_dd tk_s_when 13 rfl) ⟨v0, ⟨rfl, S1, a, s1, st2, rfl, hF1, gA.sE hE1, hB1.up (by omega), hn1⟩, Or.inr ⟨by first | exact hkn | (rw [← ekq]; exact hkn), hv1⟩⟩
  · refine x_bipush 10 (-3) (ab_dd tk_s_when 4 rfl) rfl (by decide) ?_
    exact x_iret (ab_dd tk_s_when 5 rfl) ⟨-3, ⟨rfl, S, b, st, st2, rfl, fAs.rf, gA.rf, h.up (by omega), ht⟩, Or.inl ⟨h5, rfl⟩⟩
def tb_s_round : List (Nat × Instr × Nat) := [(0, .iload_n 1, 1), (1, .ifCond .lt 8, 3), (4, .iload_n 1, 1), (5, .iconst 1, 1), (6, .if_icmp .le 6, 3), (9, .bipush (-2), 2), (11, .ireturn, 1), (12, .aload_n 0, 1), (13, .invokevirtual 270, 3), (16, .astore_n 2, 1), (17, .iload_n 1, 1), (18, .ifCond .ne 10, 3), (21, .aload_n 2, 1), (22, .getfield 277, 3), (25, .goto 7, 3), (28, .aload_n 2, 1), (29, .getfield 280, 3), (32, .ireturn, 1)]
theorem tk_s_round : ∀ q ∈ tb_s_round, decode M_s_round.2.1 q.1 = .ok q.2 := by decide +kernel
theorem p_s_round {G : ab_G} {S : ab_S} {im : Nat → Prop} {a b : Nat → Int32} {c bh nb st st2 u : Nat} (h : kBd S im a c b bh nb st st2 u) (ht : sdE S 55 (rowT a)) (hu : u + 64 < 2 ^ 20) (x : Int32) : ab_C G 7 M_s_round [.ref 50, .int x] (sw S) (fun v w' => ∃ v0, pAs S im a c bh nb u 0 0 (some (.int v0)) v w' ∧ ((¬ (0 ≤ x ∧ x ≤ 1) ∧ v0 = -2) ∨ ((0 ≤ x ∧ x ≤ 1) ∧ ∃ n t, isLas (aI a (a 40)) n t ∧ n ≤ 625 ∧ v0 = if x = 0 then nI t else nI (n - t)))) := by
  refine x_enter [some (.ref 50), some (.int x), none] (by decide) (Nat.le_of_ble_eq_true rfl) rfl (fun v w' h => by obtain ⟨v0, ⟨rfl, -⟩, -⟩ := h; rfl) ?_
  have hbh := h.bh.1
  have h0 := h
  obtain ⟨hx, hse, kc, ⟨him, hil, h145⟩, ha, hc, ⟨hb1, hb2, hcl, hnb⟩, hcl9, -, hid, -, hu1, hu2⟩ := h0
  have h40 : sI S 55 3 = a 40 := ht.2.2.2.1.trans ha.1.m40.1.symm
  have hca := hcl.1.sta hb2.sy
  obtain ⟨hk, c1, -⟩ := hca
  have hR := ha.1.R.2
  have h50 : 50 ≤ sn S := by omega
  refine x_iload_n 1 1 (ab_dd tk_s_round 0 rfl) rfl rfl rfl ?_
  refine x_if_lt 4 9 (ab_dd tk_s_round 1 rfl) rfl (by decide) (fun h1 => ?_) (fun h1 => ?_)
  · refine x_bipush 11 (-2) (ab_dd tk_s_round 5 rfl) rfl (by decide) ?_
    exact x_iret (ab_dd tk_s_round 6 rfl) ⟨-2, ⟨rfl, S, b, st, st2, rfl, fAs.rf, gA.rf, h.up (by omega), ht⟩, Or.inl ⟨fun z => absurd h1 (Int32.not_lt.mpr z.1), rfl⟩⟩
  · refine x_iload_n 5 1 (ab_dd tk_s_round 2 rfl) rfl rfl rfl ?_
    refine x_iconst 6 1 (ab_dd tk_s_round 3 rfl) rfl (by decide) (x_topn 1 rfl ?_)
    refine x_icmp_le 9 12 (ab_dd tk_s_round 4 rfl) rfl (by decide) (fun h6 => ?_) (fun h6 => ?_)
    · refine x_aload_n 13 0 (ab_dd tk_s_round 7 rfl) rfl rfl rfl ?_
      refine t_callV 16 M_s_settled 5 0 [] (ab_dd tk_s_round 8 rfl) rfl (by first | decide | omega) K_s_settled V_s_settled.1 V_s_settled.2 L_s_270 rfl (Nat.le_of_ble_eq_true rfl) (by decide) (Nat.lt_of_lt_of_le (by decide) hx.1) (hx.2.1 0 (by decide)) rfl (b_s_settled h ht (by omega)) (fun v1 w1 h1 => ?_)
      obtain ⟨rfl, S1, s1, n0, t0, rfl, hE1, hB1, hn1, f1, f2, f3, f4, f5⟩ := h1
      have hB1c := hB1
      obtain ⟨hx1, hse1, kc1, ⟨-, -, h1451⟩, -, hc1, ⟨-, -, hcl1, -⟩, -⟩ := hB1c
      have h501 : 50 ≤ sn S1 := by omega
      obtain ⟨hk1, c11, -⟩ := hcl1.1
      have hF1 : fAs im bh S S1 := fAs.of (gF.sE hE1) (by omega) (fun y _ z => by simp only [List.mem_cons, List.not_mem_nil, or_false] at z; omega) (by omega)
      have hfI : ∀ k, cI a (aW a) (aQ a) (k + 1) = (fun s => cB a s (aQ a)) (cI a (aW a) (aQ a) k) := fun _ => rfl
      have hcI : ∀ i, cI a (aW a) (aQ a) i < 625 := fun i => by have := cI_lt hR (rowT_in ha.1).1 (rowT_in ha.1).2.1 i; have := p5_6 hR; omega
      have ht0 : t0 ≤ 625 := by have := f1.1; omega
      refine x_astore_n 17 [some (.ref 50), some (.int x), some (.ref 104)] 2 (ab_dd tk_s_round 9 rfl) rfl rfl (by decide) rfl ?_
      refine x_iload_n 18 1 (ab_dd tk_s_round 10 rfl) rfl rfl rfl ?_
      refine x_if_ne 21 28 (ab_dd tk_s_round 11 rfl) rfl (by decide) (fun h18 => ?_) (fun h18 => ?_)
      · refine x_aload_n 29 2 (ab_dd tk_s_round 15 rfl) rfl rfl rfl ?_
        refine t_getI 32 (ab_dd tk_s_round 16 rfl) rfl F_s_280 (by decide) (Nat.lt_of_lt_of_le (by decide) hx1.1) (hx1.2.1 54 (by decide)) rfl (x_topn (n0 - t0) f4 ?_)
        exact x_iret (ab_dd tk_s_round 17 rfl) ⟨_, ⟨rfl, S1, a, s1, st2, rfl, hF1, gA.sE hE1, hB1.up (by omega), hn1⟩, Or.inr ⟨⟨Int32.not_lt.mp h1, h6⟩, n0, t0, isLas_cI ha.1 f1, f2, by rw [if_neg h18]⟩⟩
      · refine x_aload_n 22 2 (ab_dd tk_s_round 12 rfl) rfl rfl rfl ?_
        refine t_getI 25 (ab_dd tk_s_round 13 rfl) rfl F_s_277 (by decide) (Nat.lt_of_lt_of_le (by decide) hx1.1) (hx1.2.1 54 (by decide)) rfl (x_topn t0 f3 ?_)
        refine x_goto 32 (ab_dd tk_s_round 14 rfl) (by decide) ?_
        exact x_iret (ab_dd tk_s_round 17 rfl) ⟨_, ⟨rfl, S1, a, s1, st2, rfl, hF1, gA.sE hE1, hB1.up (by omega), hn1⟩, Or.inr ⟨⟨Int32.not_lt.mp h1, h6⟩, n0, t0, isLas_cI ha.1 f1, f2, by rw [if_pos h18]⟩⟩
    · refine x_bipush 11 (-2) (ab_dd tk_s_round 5 rfl) rfl (by decide) ?_
      exact x_iret (ab_dd tk_s_round 6 rfl) ⟨-2, ⟨rfl, S, b, st, st2, rfl, fAs.rf, gA.rf, h.up (by omega), ht⟩, Or.inl ⟨fun z => h6 z.2, rfl⟩⟩
def tb_s_lies : List (Nat × Instr × Nat) := [(0, .aload_n 0, 1), (1, .iload_n 1, 1), (2, .i2l, 1), (3, .invokevirtual 130, 3), (6, .ifCond .ne 6, 3), (9, .bipush (-2), 2), (11, .ireturn, 1), (12, .iload_n 2, 1), (13, .ifCond .lt 10, 3), (16, .iload_n 2, 1), (17, .ldc_w 269, 3), (20, .if_icmp .le 6, 3), (23, .bipush (-3), 2), (25, .ireturn, 1), (26, .aload_n 0, 1), (27, .invokevirtual 270, 3), (30, .iload_n 2, 1), (31, .invokevirtual 274, 3), (34, .iload_n 1, 1), (35, .invokestatic 148, 3), (38, .ireturn, 1)]
theorem tk_s_lies : ∀ q ∈ tb_s_lies, decode M_s_lies.2.1 q.1 = .ok q.2 := by decide +kernel
theorem p_s_lies {G : ab_G} {S : ab_S} {im : Nat → Prop} {a b : Nat → Int32} {c bh nb st st2 u : Nat} (h : kBd S im a c b bh nb st st2 u) (ht : sdE S 55 (rowT a)) (hu : u + 64 < 2 ^ 20) (p n : Int32) : ab_C G 7 M_s_lies [.ref 50, .int p, .int n] (sw S) (fun v w' => pAs S im a c bh nb u 0 0 (some (.int (if (0 ≤ p ∧ cN p < aR a) then (if 0 ≤ n ∧ n ≤ 99999 then nI (mWa (aI a (a 40) (cN n)) (cN p)) else -3) else -2))) v w') := by
  refine x_enter [some (.ref 50), some (.int p), some (.int n)] (by decide) (Nat.le_of_ble_eq_true rfl) rfl (fun v w' h => by obtain ⟨rfl, -⟩ := h; rfl) ?_
  have hbh := h.bh.1
  have h0 := h
  obtain ⟨hx, hse, kc, ⟨him, hil, h145⟩, ha, hc, ⟨hb1, hb2, hcl, hnb⟩, hcl9, -, hid, -, hu1, hu2⟩ := h0
  have h40 : sI S 55 3 = a 40 := ht.2.2.2.1.trans ha.1.m40.1.symm
  have hca := hcl.1.sta hb2.sy
  obtain ⟨hk, c1, -⟩ := hca
  have hR := ha.1.R.2
  have h50 : 50 ≤ sn S := by omega
  refine x_aload_n 1 0 (ab_dd tk_s_lies 0 rfl) rfl rfl rfl ?_
  refine x_iload_n 2 1 (ab_dd tk_s_lies 1 rfl) rfl rfl rfl ?_
  refine x_i2l 3 (ab_dd tk_s_lies 2 rfl) rfl ?_
  refine t_callV 6 M_s_isRider 0 1 [_] (ab_dd tk_s_lies 3 rfl) rfl (by first | decide | omega) K_s_isRider V_s_isRider.1 V_s_isRider.2 L_s_130 rfl (Nat.le_of_ble_eq_true rfl) (by decide) (Nat.lt_of_lt_of_le (by decide) hx.1) (hx.2.1 0 (by decide)) rfl (cx_isRider (by exact hx) hc hk hR c1 p) (fun v1 w1 h1 => ?_)
  obtain ⟨rfl, rfl⟩ := h1
  refine xb_if_ne 9 12 (ab_dd tk_s_lies 4 rfl) rfl (by decide) (fun h6 => ?_) (fun h6 => ?_)
  · refine x_iload_n 13 2 (ab_dd tk_s_lies 7 rfl) rfl rfl rfl ?_
    refine x_if_lt 16 23 (ab_dd tk_s_lies 8 rfl) rfl (by decide) (fun h13 => ?_) (fun h13 => ?_)
    · refine x_bipush 25 (-3) (ab_dd tk_s_lies 12 rfl) rfl (by decide) ?_
      rw [if_pos h6, if_neg (fun z => absurd h13 (Int32.not_lt.mpr z.1))]
      exact x_iret (ab_dd tk_s_lies 13 rfl) ⟨rfl, S, b, st, st2, rfl, fAs.rf, gA.rf, h.up (by omega), ht⟩
    · refine x_iload_n 17 2 (ab_dd tk_s_lies 9 rfl) rfl rfl rfl ?_
      refine x_ldcw 20 (ab_dd tk_s_lies 10 rfl) rfl C_s_269 (x_topn 99999 rfl ?_)
      refine x_icmp_le 23 26 (ab_dd tk_s_lies 11 rfl) rfl (by decide) (fun h20 => ?_) (fun h20 => ?_)
      · have hpp := h6
        have hnn : 0 ≤ n ∧ n ≤ 99999 := ⟨Int32.not_lt.mp h13, h20⟩
        rw [if_pos hpp, if_pos hnn]
        obtain ⟨q, ekq, enq⟩ : ∃ q, p = nI q ∧ cN p = q := ⟨cN p, nI_cN h6.1, rfl⟩
        rw [show some (Value.int p) = some (Value.int (nI q)) by rw [ekq], enq]
        have hq4 : q < 4 := by have := hpp.2; omega
        obtain ⟨m, hm, ekm, enm⟩ := in_get (n := 99999) (by decide) hnn
        rw [show some (Value.int n) = some (Value.int (nI m)) by rw [ekm], enm]
        refine x_aload_n 27 0 (ab_dd tk_s_lies 14 rfl) rfl rfl rfl ?_
        refine t_callV 30 M_s_settled 5 0 [] (ab_dd tk_s_lies 15 rfl) rfl (by first | decide | omega) K_s_settled V_s_settled.1 V_s_settled.2 L_s_270 rfl (Nat.le_of_ble_eq_true rfl) (by decide) (Nat.lt_of_lt_of_le (by decide) hx.1) (hx.2.1 0 (by decide)) rfl (b_s_settled h ht (by omega)) (fun v1 w1 h1 => ?_)
        obtain ⟨rfl, S1, s1, n0, t0, rfl, hE1, hB1, hn1, f1, f2, f3, f4, f5⟩ := h1
        have hB1c := hB1
        obtain ⟨hx1, hse1, kc1, ⟨-, -, h1451⟩, -, hc1, ⟨-, -, hcl1, -⟩, -⟩ := hB1c
        have h501 : 50 ≤ sn S1 := by omega
        obtain ⟨hk1, c11, -⟩ := hcl1.1
        have hF1 : fAs im bh S S1 := fAs.of (gF.sE hE1) (by omega) (fun y _ z => by simp only [List.mem_cons, List.not_mem_nil, or_false] at z; omega) (by omega)
        have hfI : ∀ k, cI a (aW a) (aQ a) (k + 1) = (fun s => cB a s (aQ a)) (cI a (aW a) (aQ a) k) := fun _ => rfl
        have hcI : ∀ i, cI a (aW a) (aQ a) i < 625 := fun i => by have := cI_lt hR (rowT_in ha.1).1 (rowT_in ha.1).2.1 i; have := p5_6 hR; omega
        have ht0 : t0 ≤ 625 := by have := f1.1; omega
        refine x_iload_n 31 2 (ab_dd tk_s_lies 16 rfl) rfl rfl rfl ?_
        refine t_callV 34 M_id_warmBehind 0 1 [_] (ab_dd tk_s_lies 17 rfl) rfl (by first | decide | omega) K_id_warmBehind V_id_warmBehind.1 V_id_warmBehind.2 L_s_274 rfl (Nat.le_of_ble_eq_true rfl) (by decide) (Nat.lt_of_lt_of_le (by decide) hx1.1) (hx1.2.1 54 (by decide)) rfl (c_id_warmBehind (g := fun s => cB a s (aQ a)) hx1 hfI f1 f2 f3 f4 f5 m (by omega)) (fun v1 w1 h1 => ?_)
        obtain ⟨rfl, rfl⟩ := h1
        have hcm := hcI m
        refine x_iload_n 35 1 (ab_dd tk_s_lies 18 rfl) rfl rfl rfl ?_
        refine x_callS 38 M_s_warmthOf 0 2 [_, _] (ab_dd tk_s_lies 19 rfl) rfl (by first | decide | omega) K_s_warmthOf T_s_warmthOf L_s_148 rfl (Nat.le_of_ble_eq_true rfl) (c_s_warmthOf kc1 h501 (cI a (aW a) (aQ a) m) q hcm hq4) (fun v1 w1 h1 => ?_)
        obtain ⟨rfl, rfl⟩ := h1
        have eA : mWa (aI a (a 40) m) q = mWa (cI a (aW a) (aQ a) m) q := by rw [aI_cI ha.1, cSt_wa hcm]
        rw [eA]
        exact x_iret (ab_dd tk_s_lies 20 rfl) ⟨rfl, S1, a, s1, st2, rfl, hF1, gA.sE hE1, hB1.up (by omega), hn1⟩
      · refine x_bipush 25 (-3) (ab_dd tk_s_lies 12 rfl) rfl (by decide) ?_
        rw [if_pos h6, if_neg (fun z => h20 z.2)]
        exact x_iret (ab_dd tk_s_lies 13 rfl) ⟨rfl, S, b, st, st2, rfl, fAs.rf, gA.rf, h.up (by omega), ht⟩
  · refine x_bipush 11 (-2) (ab_dd tk_s_lies 5 rfl) rfl (by decide) ?_
    rw [if_neg h6]
    exact x_iret (ab_dd tk_s_lies 6 rfl) ⟨rfl, S, b, st, st2, rfl, fAs.rf, gA.rf, h.up (by omega), ht⟩
