/-! ===== give, undo ===== -/
theorem kBd.row {S : ab_S} {im : Nat → Prop} {a a' b : Nat → Int32} {c bh nb st st2 u : Nat} (h : kBd S im a c b bh nb st st2 u) (ha' : aGood a') (hs : sta a a') : kBd S im a' c b bh nb st st2 u := by
  have h0 := h
  obtain ⟨x1, x2, x3, ⟨x4, x5, x6⟩, x7, x8, ⟨x9, x10, x11, x12⟩, x13, -, x16, -, x18, x19⟩ := h0
  exact h.se84 (l := []) sEq.rf (fun y hy => by cases hy) ha' hs x9 (hs.sy.tr x10) x11 kpX.rf (Nat.le_refl _) (Nat.le_refl _) x18
def tb_s_give : List (Nat × Instr × Nat) := [(0, .aload_n 0, 1), (1, .iload_n 1, 1), (2, .i2l, 1), (3, .invokevirtual 130, 3), (6, .ifCond .eq 12, 3), (9, .aload_n 0, 1), (10, .iload_n 2, 1), (11, .i2l, 1), (12, .invokevirtual 130, 3), (15, .ifCond .ne 6, 3), (18, .bipush (-11), 2), (20, .ireturn, 1), (21, .aload_n 0, 1), (22, .bipush 100, 2), (24, .iload_n 1, 1), (25, .bipush 10, 2), (27, .imul, 1), (28, .iadd, 1), (29, .iload_n 2, 1), (30, .iadd, 1), (31, .invokevirtual 187, 3), (34, .istore_n 3, 1), (35, .iload_n 3, 1), (36, .ifCond .ne 17, 3), (39, .aload_n 0, 1), (40, .getfield 27, 3), (43, .getfield 134, 3), (46, .iload_n 1, 1), (47, .invokestatic 137, 3), (50, .goto 7, 3), (53, .bipush (-10), 2), (55, .iload_n 3, 1), (56, .isub, 1), (57, .ireturn, 1)]
theorem tk_s_give : ∀ q ∈ tb_s_give, decode M_s_give.2.1 q.1 = .ok q.2 := by decide +kernel
theorem p_s_give {G : ab_G} {S : ab_S} {im : Nat → Prop} {a b : Nat → Int32} {c bh nb st st2 u : Nat} (h : kBd S im a c b bh nb st st2 u) (ht : sdE S 55 (rowT a)) (hu : u + 64 < 2 ^ 20) {n s : Nat} {f : Nat → sT} (hp : paI S n s f) (p e : Int32) : ab_C G 7 M_s_give [.ref 50, .int p, .int e] (sw S) (fun v w' => (¬ ((0 ≤ p ∧ cN p < aR a) ∧ (0 ≤ e ∧ cN e < aR a)) ∧ pDe S im a c bh nb st2 u n s f (some (.int (-11))) a False v w') ∨ (((0 ≤ p ∧ cN p < aR a) ∧ (0 ≤ e ∧ cN e < aR a)) ∧ pDe S im a c bh nb st2 u n s f (some (.int (if aWy a (lN ((100 + cN p * 10) + cN e)) = 0 then nI (d4 (seaC (aft a (lN ((100 + cN p * 10) + cN e)))) (cN p)) else -10 - nI (aWy a (lN ((100 + cN p * 10) + cN e)))))) (aft a (lN ((100 + cN p * 10) + cN e))) (aWy a (lN ((100 + cN p * 10) + cN e)) = 0) v w')) := by
  refine x_enter [some (.ref 50), some (.int p), some (.int e), none] (by decide) (Nat.le_of_ble_eq_true rfl) rfl (fun v w' h => by rcases h with ⟨-, rfl, -⟩ | ⟨-, rfl, -⟩ <;> rfl) ?_
  have hbh := h.bh.1
  have h0 := h
  obtain ⟨hx, hse, kc, ⟨him, hil, h145⟩, ha, hc, ⟨hb1, hb2, hcl, hnb⟩, hcl9, -, hid, -, hu1, hu2⟩ := h0
  have h40 : sI S 55 3 = a 40 := ht.2.2.2.1.trans ha.1.m40.1.symm
  have hca := hcl.1.sta hb2.sy
  obtain ⟨hk, c1, -⟩ := hca
  have hR := ha.1.R.2
  have h50 : 50 ≤ sn S := by omega
  have hw6 : aW a < 625 := by have := (rowT_in ha.1).2.1; have := p5_6 hR; omega
  have hsl := seaC_lt ha.1
  refine x_aload_n 1 0 (ab_dd tk_s_give 0 rfl) rfl rfl rfl ?_
  refine x_iload_n 2 1 (ab_dd tk_s_give 1 rfl) rfl rfl rfl ?_
  refine x_i2l 3 (ab_dd tk_s_give 2 rfl) rfl ?_
  refine t_callV 6 M_s_isRider 0 1 [_] (ab_dd tk_s_give 3 rfl) rfl (by first | decide | omega) K_s_isRider V_s_isRider.1 V_s_isRider.2 L_s_130 rfl (Nat.le_of_ble_eq_true rfl) (by decide) (Nat.lt_of_lt_of_le (by decide) hx.1) (hx.2.1 0 (by decide)) rfl (cx_isRider (by exact hx) hc hk hR c1 p) (fun v1 w1 h1 => ?_)
  obtain ⟨rfl, rfl⟩ := h1
  refine xb_if_eq 9 18 (ab_dd tk_s_give 4 rfl) rfl (by decide) (fun h6 => ?_) (fun h6 => ?_)
  · refine x_bipush 20 (-11) (ab_dd tk_s_give 10 rfl) rfl (by decide) ?_
    exact x_iret (ab_dd tk_s_give 11 rfl) (Or.inl ⟨fun z => h6 z.1, ⟨rfl, S, b, st, rfl, sEq.rf, h.up (by omega), ht, fun z => z.elim, fun _ => hp⟩⟩)
  · refine x_aload_n 10 0 (ab_dd tk_s_give 5 rfl) rfl rfl rfl ?_
    refine x_iload_n 11 2 (ab_dd tk_s_give 6 rfl) rfl rfl rfl ?_
    refine x_i2l 12 (ab_dd tk_s_give 7 rfl) rfl ?_
    refine t_callV 15 M_s_isRider 0 1 [_] (ab_dd tk_s_give 8 rfl) rfl (by first | decide | omega) K_s_isRider V_s_isRider.1 V_s_isRider.2 L_s_130 rfl (Nat.le_of_ble_eq_true rfl) (by decide) (Nat.lt_of_lt_of_le (by decide) hx.1) (hx.2.1 0 (by decide)) rfl (cx_isRider (by exact hx) hc hk hR c1 e) (fun v1 w1 h1 => ?_)
    obtain ⟨rfl, rfl⟩ := h1
    refine xb_if_ne 18 21 (ab_dd tk_s_give 9 rfl) rfl (by decide) (fun h15 => ?_) (fun h15 => ?_)
    · have hdd := And.intro h6 h15
      obtain ⟨q, ekq, enq⟩ : ∃ q, p = nI q ∧ cN p = q := ⟨cN p, nI_cN h6.1, rfl⟩
      obtain ⟨m, ekm, enm⟩ : ∃ m, e = nI m ∧ cN e = m := ⟨cN e, nI_cN h15.1, rfl⟩
      rw [show some (Value.int p) = some (Value.int (nI q)) by rw [ekq], show some (Value.int e) = some (Value.int (nI m)) by rw [ekm], enq, enm]
      rw [enq, enm] at hdd
      have hq4 : q < 4 := by omega
      have hm4 : m < 4 := by omega
      refine x_aload_n 22 0 (ab_dd tk_s_give 12 rfl) rfl rfl rfl ?_
      refine x_bipush 24 100 (ab_dd tk_s_give 13 rfl) rfl (by decide) (x_topn 100 rfl ?_)
      refine x_iload_n 25 1 (ab_dd tk_s_give 14 rfl) rfl rfl rfl ?_
      refine x_bipush 27 10 (ab_dd tk_s_give 15 rfl) rfl (by decide) (x_topn 10 rfl ?_)
      refine x_imul 28 (ab_dd tk_s_give 16 rfl) rfl (x_topn (q * 10) (pk_mul _ _) ?_)
      refine x_iadd 29 (ab_dd tk_s_give 17 rfl) rfl (x_topn (100 + (q * 10)) (nI_add _ _) ?_)
      refine x_iload_n 30 2 (ab_dd tk_s_give 18 rfl) rfl rfl rfl ?_
      refine x_iadd 31 (ab_dd tk_s_give 19 rfl) rfl (x_topn ((100 + (q * 10)) + m) (nI_add _ _) ?_)
      refine t_callV 34 M_s_doAlone 6 1 [_] (ab_dd tk_s_give 20 rfl) rfl (by first | decide | omega) K_s_doAlone V_s_doAlone.1 V_s_doAlone.2 L_s_187 rfl (Nat.le_of_ble_eq_true rfl) (by decide) (Nat.lt_of_lt_of_le (by decide) hx.1) (hx.2.1 0 (by decide)) rfl (b_s_doAlone h ht (by omega) hp ((100 + q * 10) + m) (by omega)) (fun v1 w1 h1 => ?_)
      obtain ⟨rfl, S1, b1, s1, rfl, hE1, hB1, hn1, hP1⟩ := h1
      have hB1c := hB1
      obtain ⟨hx1, hse1, kc1, ⟨-, -, h1451⟩, ha1, hc1, ⟨-, hsb1, hcl1, -⟩, -⟩ := hB1c
      have h501 : 50 ≤ sn S1 := by omega
      have hRa : aR (aft a (lN ((100 + q * 10) + m))) = aR a := (aft_ok ha (lN ((100 + q * 10) + m))).2.R
      obtain ⟨hk1, c10, -⟩ := hcl1.1.sta hsb1.sy
      have c11 : sI S1 c 0 = nI (aR a) := by rw [← hRa]; exact c10
      have hw61 : aW (aft a (lN ((100 + q * 10) + m))) < 625 := by have := (rowT_in ha1.1).2.1; have := p5_6 ha1.1.R.2; omega
      have hsl1 := seaC_lt ha1.1
      have hY := aWy_lt (a := a) (v := lN ((100 + q * 10) + m))
      refine x_istore_n 35 [some (.ref 50), some (.int (nI q)), some (.int (nI m)), some (.int (nI (aWy a (lN ((100 + q * 10) + m)))))] 3 (ab_dd tk_s_give 21 rfl) rfl rfl (by decide) rfl ?_
      refine x_iload_n 36 3 (ab_dd tk_s_give 22 rfl) rfl rfl rfl ?_
      refine xn_if_ne 39 53 (ab_dd tk_s_give 23 rfl) rfl (by decide) (by omega) (fun h36 => ?_) (fun h36 => ?_)
      · refine x_bipush 55 (-10) (ab_dd tk_s_give 30 rfl) rfl (by decide) ?_
        refine x_iload_n 56 3 (ab_dd tk_s_give 31 rfl) rfl rfl rfl ?_
        refine x_isub 57 (ab_dd tk_s_give 32 rfl) rfl ?_
        rw [if_neg (show ¬ aWy a (lN ((100 + q * 10) + m)) = 0 by omega)]
        exact x_iret (ab_dd tk_s_give 33 rfl) (Or.inr ⟨hdd, ⟨rfl, S1, b1, s1, rfl, hE1, hB1.up (by omega), hn1, fun z => by rw [if_pos z] at hP1; exact hP1, fun z => by rw [if_neg z] at hP1; exact hP1⟩⟩)
      · refine x_aload_n 40 0 (ab_dd tk_s_give 24 rfl) rfl rfl rfl ?_
        refine t_getP 43 55 (ab_dd tk_s_give 25 rfl) rfl F_s_27 (by decide) (Nat.lt_of_lt_of_le (by decide) hx1.1) (hx1.2.1 0 (by decide)) rfl (hx1.2.2 (50, 3, 55) (by decide)) ?_
        refine t_getI 46 (ab_dd tk_s_give 26 rfl) rfl F_s_134 (by decide) (Nat.lt_of_lt_of_le (by decide) hx1.1) (hx1.2.1 5 (by decide)) rfl (x_topn (seaC (aft a (lN ((100 + q * 10) + m)))) hn1.1 ?_)
        refine x_iload_n 47 1 (ab_dd tk_s_give 27 rfl) rfl rfl rfl ?_
        refine x_callS 50 M_s_seasonOf 0 2 [_, _] (ab_dd tk_s_give 28 rfl) rfl (by first | decide | omega) K_s_seasonOf T_s_seasonOf L_s_137 rfl (Nat.le_of_ble_eq_true rfl) (c_s_seasonOf (seaC (aft a (lN ((100 + q * 10) + m)))) q (by omega) (by omega)) (fun v1 w1 h1 => ?_)
        obtain ⟨rfl, rfl⟩ := h1
        refine x_goto 57 (ab_dd tk_s_give 29 rfl) (by decide) ?_
        rw [if_pos h36]
        exact x_iret (ab_dd tk_s_give 33 rfl) (Or.inr ⟨hdd, ⟨rfl, S1, b1, s1, rfl, hE1, hB1.up (by omega), hn1, fun z => by rw [if_pos z] at hP1; exact hP1, fun z => by rw [if_neg z] at hP1; exact hP1⟩⟩)
    · refine x_bipush 20 (-11) (ab_dd tk_s_give 10 rfl) rfl (by decide) ?_
      exact x_iret (ab_dd tk_s_give 11 rfl) (Or.inl ⟨fun z => h15 z.2, ⟨rfl, S, b, st, rfl, sEq.rf, h.up (by omega), ht, fun z => z.elim, fun _ => hp⟩⟩)
def tb_s_undo : List (Nat × Instr × Nat) := [(0, .iload_n 1, 1), (1, .iconst 1, 1), (2, .if_icmp .lt 14, 3), (5, .iload_n 1, 1), (6, .aload_n 0, 1), (7, .getfield 37, 3), (10, .getfield 202, 3), (13, .if_icmp .le 6, 3), (16, .bipush (-3), 2), (18, .ireturn, 1), (19, .aload_n 0, 1), (20, .getfield 37, 3), (23, .iload_n 1, 1), (24, .aload_n 0, 1), (25, .getfield 27, 3), (28, .invokevirtual 205, 3), (31, .aload_n 0, 1), (32, .getfield 37, 3), (35, .getfield 202, 3), (38, .ireturn, 1)]
theorem tk_s_undo : ∀ q ∈ tb_s_undo, decode M_s_undo.2.1 q.1 = .ok q.2 := by decide +kernel
theorem p_s_undo {G : ab_G} {S : ab_S} {im : Nat → Prop} {a b : Nat → Int32} {c bh nb st st2 u : Nat} (h : kBd S im a c b bh nb st st2 u) (ht : sdE S 55 (rowT a)) (hu : u + 64 < 2 ^ 20) {n s : Nat} {f : Nat → sT} (hp : paI S n s f) {A : Nat → Nat → Int32} (hA : ∀ t, t < s → aGood (A t) ∧ sta a (A t) ∧ f ((n + 10 - s + t) % 10) = rowT (A t)) (e : Int32) : ab_C G 7 M_s_undo [.ref 50, .int e] (sw S) (fun v w' => (¬ (1 ≤ e ∧ e ≤ nI s) ∧ pDe S im a c bh nb st2 u n s f (some (.int (-3))) a False v w') ∨ ((1 ≤ e ∧ e ≤ nI s) ∧ v = some (.int (nI (s - cN e))) ∧ ∃ S', w' = sw S' ∧ sEq [57, 55] S S' ∧ kBd S' im (A (s - cN e)) c b bh nb st st2 u ∧ sdE S' 55 (rowT (A (s - cN e))) ∧ paI S' ((n + 10 - cN e) % 10) (s - cN e) f)) := by
  refine x_enter [some (.ref 50), some (.int e)] (by decide) (Nat.le_of_ble_eq_true rfl) rfl (fun v w' h => by rcases h with ⟨-, rfl, -⟩ | ⟨-, rfl, -⟩ <;> rfl) ?_
  have hbh := h.bh.1
  have h0 := h
  obtain ⟨hx, hse, kc, ⟨him, hil, h145⟩, ha, hc, ⟨hb1, hb2, hcl, hnb⟩, hcl9, -, hid, -, hu1, hu2⟩ := h0
  have h40 : sI S 55 3 = a 40 := ht.2.2.2.1.trans ha.1.m40.1.symm
  have hca := hcl.1.sta hb2.sy
  obtain ⟨hk, c1, -⟩ := hca
  have hR := ha.1.R.2
  have h50 : 50 ≤ sn S := by omega
  have hw6 : aW a < 625 := by have := (rowT_in ha.1).2.1; have := p5_6 hR; omega
  have hsl := seaC_lt ha.1
  have hp0 := hp
  obtain ⟨u1, u2, u3, u4, u5⟩ := hp0
  refine x_iload_n 1 1 (ab_dd tk_s_undo 0 rfl) rfl rfl rfl ?_
  refine x_iconst 2 1 (ab_dd tk_s_undo 1 rfl) rfl (by decide) (x_topn 1 rfl ?_)
  refine x_icmp_lt 5 16 (ab_dd tk_s_undo 2 rfl) rfl (by decide) (fun h2 => ?_) (fun h2 => ?_)
  · refine x_bipush 18 (-3) (ab_dd tk_s_undo 8 rfl) rfl (by decide) ?_
    exact x_iret (ab_dd tk_s_undo 9 rfl) (Or.inl ⟨fun z => absurd h2 (Int32.not_lt.mpr z.1), ⟨rfl, S, b, st, rfl, sEq.rf, h.up (by omega), ht, fun z => z.elim, fun _ => hp⟩⟩)
  · refine x_iload_n 6 1 (ab_dd tk_s_undo 3 rfl) rfl rfl rfl ?_
    refine x_aload_n 7 0 (ab_dd tk_s_undo 4 rfl) rfl rfl rfl ?_
    refine t_getP 10 57 (ab_dd tk_s_undo 5 rfl) rfl F_s_37 (by decide) (Nat.lt_of_lt_of_le (by decide) hx.1) (hx.2.1 0 (by decide)) rfl (hx.2.2 (50, 5, 57) (by decide)) ?_
    refine t_getI 13 (ab_dd tk_s_undo 6 rfl) rfl F_s_202 (by decide) (Nat.lt_of_lt_of_le (by decide) hx.1) (hx.2.1 7 (by decide)) rfl (x_topn s u3 ?_)
    refine x_icmp_le 16 19 (ab_dd tk_s_undo 7 rfl) rfl (by decide) (fun h13 => ?_) (fun h13 => ?_)
    · have hdd : 1 ≤ e ∧ e ≤ nI s := ⟨Int32.not_lt.mp h2, h13⟩
      obtain ⟨q, hq, ekq, enq⟩ := in_get (n := s) (by omega) ⟨Int32.le_trans (by decide) hdd.1, hdd.2⟩
      have hq1 : 1 ≤ q := by
        have z := hdd.1
        rw [ekq] at z
        exact (nI_leI (a := 1) (by decide) (by omega)).mp z
      rw [show some (Value.int e) = some (Value.int (nI q)) by rw [ekq], enq]
      refine x_aload_n 20 0 (ab_dd tk_s_undo 10 rfl) rfl rfl rfl ?_
      refine t_getP 23 57 (ab_dd tk_s_undo 11 rfl) rfl F_s_37 (by decide) (Nat.lt_of_lt_of_le (by decide) hx.1) (hx.2.1 0 (by decide)) rfl (hx.2.2 (50, 5, 57) (by decide)) ?_
      refine x_iload_n 24 1 (ab_dd tk_s_undo 12 rfl) rfl rfl rfl ?_
      refine x_aload_n 25 0 (ab_dd tk_s_undo 13 rfl) rfl rfl rfl ?_
      refine t_getP 28 55 (ab_dd tk_s_undo 14 rfl) rfl F_s_27 (by decide) (Nat.lt_of_lt_of_le (by decide) hx.1) (hx.2.1 0 (by decide)) rfl (hx.2.2 (50, 3, 55) (by decide)) ?_
      refine t_callV 31 M_pa_bringBack 1 2 [_, _] (ab_dd tk_s_undo 15 rfl) rfl (by first | decide | omega) K_pa_bringBack V_pa_bringBack.1 V_pa_bringBack.2 L_s_205 rfl (Nat.le_of_ble_eq_true rfl) (by decide) (Nat.lt_of_lt_of_le (by decide) hx.1) (hx.2.1 7 (by decide)) rfl (c_pa_bringBack hx hp (show sdK S 55 from x_55 hx (by decide)) (Or.inl (by decide)) q hq1 hq) (fun v1 w1 h1 => ?_)
      obtain ⟨rfl, S1, rfl, hE1, hp1, hn1⟩ := h1
      obtain ⟨y1, y2, y3⟩ := hA (s - q) (by omega)
      rw [show n + 10 - s + (s - q) = n + 10 - q by omega] at y3
      rw [y3] at hn1
      have hB1 := (h.row y1 y2).se hE1 (fun y hy => by simp only [List.mem_cons, List.not_mem_nil, or_false] at hy; omega)
      have hx1 : xSh S1 := hB1.1
      refine x_aload_n 32 0 (ab_dd tk_s_undo 16 rfl) rfl rfl rfl ?_
      refine t_getP 35 57 (ab_dd tk_s_undo 17 rfl) rfl F_s_37 (by decide) (Nat.lt_of_lt_of_le (by decide) hx1.1) (hx1.2.1 0 (by decide)) rfl (hx1.2.2 (50, 5, 57) (by decide)) ?_
      refine t_getI 38 (ab_dd tk_s_undo 18 rfl) rfl F_s_202 (by decide) (Nat.lt_of_lt_of_le (by decide) hx1.1) (hx1.2.1 7 (by decide)) rfl (x_topn (s - q) hp1.2.2.1 ?_)
      exact x_iret (ab_dd tk_s_undo 19 rfl) (Or.inr ⟨by first | exact hdd | (rw [← ekq]; exact hdd), rfl, S1, rfl, hE1, hB1, hn1, hp1⟩)
    · refine x_bipush 18 (-3) (ab_dd tk_s_undo 8 rfl) rfl (by decide) ?_
      exact x_iret (ab_dd tk_s_undo 9 rfl) (Or.inl ⟨fun z => h13 z.2, ⟨rfl, S, b, st, rfl, sEq.rf, h.up (by omega), ht, fun z => z.elim, fun _ => hp⟩⟩)
