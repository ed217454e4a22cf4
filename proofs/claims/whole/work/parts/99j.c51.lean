/-! ===== deeds called ===== -/
/-- the cells that a deed touches -/
def dL (bh : Nat) : List Nat := [56, 84, 89, 90, 91, 92, 93, bh, 55, 57, 59, 60, 61, 62, 63, 64, 65, 66, 67, 68]
/-- behind a call that does deeds: a' the row, dn whether one was done -/
def pDe (S : ab_S) (im : Nat → Prop) (a : Nat → Int32) (c bh nb st2 u n s : Nat) (f : Nat → sT) (v0 : Option Value) (a' : Nat → Int32) (dn : Prop) (v : Option Value) (w' : ab_H) : Prop := v = v0 ∧ ∃ S' b' st', w' = sw S' ∧ sEq (dL bh) S S' ∧ kBd S' im a' c b' bh nb st' st2 (u + 64) ∧ sdE S' 55 (rowT a') ∧ (dn → paI S' ((n + 1) % 10) (if s + 1 ≤ 10 then s + 1 else 10) (up1 f n (rowT a))) ∧ (¬ dn → paI S' n s f)
theorem lt4_le3 {d : Int32} (h : d < 4) : d ≤ 3 := by
  rw [Int32.le_iff_toInt_le]
  rw [Int32.lt_iff_toInt_lt] at h
  have e1 : ((3 : Int32).toInt) = 3 := by decide
  have e2 : ((4 : Int32).toInt) = 4 := by decide
  omega
theorem le3_lt4 {d : Int32} (h : d ≤ 3) : d < 4 := by
  rw [Int32.lt_iff_toInt_lt]
  rw [Int32.le_iff_toInt_le] at h
  have e1 : ((3 : Int32).toInt) = 3 := by decide
  have e2 : ((4 : Int32).toInt) = 4 := by decide
  omega
theorem lt10_le9 {d : Int32} (h : d < 10) : d ≤ 9 := by
  rw [Int32.le_iff_toInt_le]
  rw [Int32.lt_iff_toInt_lt] at h
  have e1 : ((9 : Int32).toInt) = 9 := by decide
  have e2 : ((10 : Int32).toInt) = 10 := by decide
  omega
theorem le9_lt10 {d : Int32} (h : d ≤ 9) : d < 10 := by
  rw [Int32.lt_iff_toInt_lt]
  rw [Int32.le_iff_toInt_le] at h
  have e1 : ((9 : Int32).toInt) = 9 := by decide
  have e2 : ((10 : Int32).toInt) = 10 := by decide
  omega
def tb_s_stop : List (Nat × Instr × Nat) := [(0, .iload_n 1, 1), (1, .ifCond .lt 8, 3), (4, .iload_n 1, 1), (5, .iconst 4, 1), (6, .if_icmp .lt 6, 3), (9, .bipush (-11), 2), (11, .ireturn, 1), (12, .aload_n 0, 1), (13, .iload_n 1, 1), (14, .invokevirtual 187, 3), (17, .istore_n 2, 1), (18, .iload_n 2, 1), (19, .ifCond .ne 23, 3), (22, .aload_n 0, 1), (23, .getfield 27, 3), (26, .getfield 145, 3), (29, .aload_n 0, 1), (30, .getfield 20, 3), (33, .getfield 177, 3), (36, .invokestatic 191, 3), (39, .goto 7, 3), (42, .bipush (-10), 2), (44, .iload_n 2, 1), (45, .isub, 1), (46, .ireturn, 1)]
theorem tk_s_stop : ∀ q ∈ tb_s_stop, decode M_s_stop.2.1 q.1 = .ok q.2 := by decide +kernel
theorem p_s_stop {G : ab_G} {S : ab_S} {im : Nat → Prop} {a b : Nat → Int32} {c bh nb st st2 u : Nat} (h : kBd S im a c b bh nb st st2 u) (ht : sdE S 55 (rowT a)) (hu : u + 64 < 2 ^ 20) {n s : Nat} {f : Nat → sT} (hp : paI S n s f) (d : Int32) : ab_C G 7 M_s_stop [.ref 50, .int d] (sw S) (fun v w' => (¬ (0 ≤ d ∧ d ≤ 3) ∧ pDe S im a c bh nb st2 u n s f (some (.int (-11))) a False v w') ∨ ((0 ≤ d ∧ d ≤ 3) ∧ pDe S im a c bh nb st2 u n s f (some (.int (if aWy a (lN (cN d)) = 0 then nI (mLe (aW (aft a (lN (cN d)))) (aR a)) else -10 - nI (aWy a (lN (cN d)))))) (aft a (lN (cN d))) (aWy a (lN (cN d)) = 0) v w')) := by
  refine x_enter [some (.ref 50), some (.int d), none] (by decide) (Nat.le_of_ble_eq_true rfl) rfl (fun v w' h => by rcases h with ⟨-, rfl, -⟩ | ⟨-, rfl, -⟩ <;> rfl) ?_
  have hbh := h.bh.1
  have h0 := h
  obtain ⟨hx, hse, kc, ⟨him, hil, h145⟩, ha, hc, ⟨hb1, hb2, hcl, hnb⟩, hcl9, -, hid, -, hu1, hu2⟩ := h0
  have h40 : sI S 55 3 = a 40 := ht.2.2.2.1.trans ha.1.m40.1.symm
  have hca := hcl.1.sta hb2.sy
  obtain ⟨hk, c1, -⟩ := hca
  have hR := ha.1.R.2
  have h50 : 50 ≤ sn S := by omega
  have hw6 : aW a < 625 := by have := (rowT_in ha.1).2.1; have := p5_6 hR; omega
  have hsl := seaC_lt ha.1
  refine x_iload_n 1 1 (ab_dd tk_s_stop 0 rfl) rfl rfl rfl ?_
  refine x_if_lt 4 9 (ab_dd tk_s_stop 1 rfl) rfl (by decide) (fun h1 => ?_) (fun h1 => ?_)
  · refine x_bipush 11 (-11) (ab_dd tk_s_stop 5 rfl) rfl (by decide) ?_
    exact x_iret (ab_dd tk_s_stop 6 rfl) (Or.inl ⟨fun z => absurd h1 (Int32.not_lt.mpr z.1), ⟨rfl, S, b, st, rfl, sEq.rf, h.up (by omega), ht, fun z => z.elim, fun _ => hp⟩⟩)
  · refine x_iload_n 5 1 (ab_dd tk_s_stop 2 rfl) rfl rfl rfl ?_
    refine x_iconst 6 4 (ab_dd tk_s_stop 3 rfl) rfl (by decide) (x_topn 4 rfl ?_)
    refine x_icmp_lt 9 12 (ab_dd tk_s_stop 4 rfl) rfl (by decide) (fun h6 => ?_) (fun h6 => ?_)
    · have hdd : 0 ≤ d ∧ d ≤ 3 := ⟨Int32.not_lt.mp h1, lt4_le3 h6⟩
      obtain ⟨q, hq, ekq, enq⟩ := in_get (n := 3) (by decide) hdd
      rw [show some (Value.int d) = some (Value.int (nI q)) by rw [ekq], enq]
      refine x_aload_n 13 0 (ab_dd tk_s_stop 7 rfl) rfl rfl rfl ?_
      refine x_iload_n 14 1 (ab_dd tk_s_stop 8 rfl) rfl rfl rfl ?_
      refine t_callV 17 M_s_doAlone 6 1 [_] (ab_dd tk_s_stop 9 rfl) rfl (by first | decide | omega) K_s_doAlone V_s_doAlone.1 V_s_doAlone.2 L_s_187 rfl (Nat.le_of_ble_eq_true rfl) (by decide) (Nat.lt_of_lt_of_le (by decide) hx.1) (hx.2.1 0 (by decide)) rfl (b_s_doAlone h ht (by omega) hp q (by omega)) (fun v1 w1 h1 => ?_)
      obtain ⟨rfl, S1, b1, s1, rfl, hE1, hB1, hn1, hP1⟩ := h1
      have hB1c := hB1
      obtain ⟨hx1, hse1, kc1, ⟨-, -, h1451⟩, ha1, hc1, ⟨-, hsb1, hcl1, -⟩, -⟩ := hB1c
      have h501 : 50 ≤ sn S1 := by omega
      have hRa : aR (aft a (lN q)) = aR a := (aft_ok ha (lN q)).2.R
      obtain ⟨hk1, c10, -⟩ := hcl1.1.sta hsb1.sy
      have c11 : sI S1 c 0 = nI (aR a) := by rw [← hRa]; exact c10
      have hw61 : aW (aft a (lN q)) < 625 := by have := (rowT_in ha1.1).2.1; have := p5_6 ha1.1.R.2; omega
      have hsl1 := seaC_lt ha1.1
      have hY := aWy_lt (a := a) (v := lN q)
      refine x_istore_n 18 [some (.ref 50), some (.int (nI q)), some (.int (nI (aWy a (lN q))))] 2 (ab_dd tk_s_stop 10 rfl) rfl rfl (by decide) rfl ?_
      refine x_iload_n 19 2 (ab_dd tk_s_stop 11 rfl) rfl rfl rfl ?_
      refine xn_if_ne 22 42 (ab_dd tk_s_stop 12 rfl) rfl (by decide) (by omega) (fun h19 => ?_) (fun h19 => ?_)
      · refine x_bipush 44 (-10) (ab_dd tk_s_stop 21 rfl) rfl (by decide) ?_
        refine x_iload_n 45 2 (ab_dd tk_s_stop 22 rfl) rfl rfl rfl ?_
        refine x_isub 46 (ab_dd tk_s_stop 23 rfl) rfl ?_
        rw [if_neg (show ¬ aWy a (lN q) = 0 by omega)]
        exact x_iret (ab_dd tk_s_stop 24 rfl) (Or.inr ⟨(by first | exact hdd | (rw [← ekq]; exact hdd)), ⟨rfl, S1, b1, s1, rfl, hE1, hB1.up (by omega), hn1, fun z => by rw [if_pos z] at hP1; exact hP1, fun z => by rw [if_neg z] at hP1; exact hP1⟩⟩)
      · refine x_aload_n 23 0 (ab_dd tk_s_stop 13 rfl) rfl rfl rfl ?_
        refine t_getP 26 55 (ab_dd tk_s_stop 14 rfl) rfl F_s_27 (by decide) (Nat.lt_of_lt_of_le (by decide) hx1.1) (hx1.2.1 0 (by decide)) rfl (hx1.2.2 (50, 3, 55) (by decide)) ?_
        refine t_getI 29 (ab_dd tk_s_stop 15 rfl) rfl F_s_145 (by decide) (Nat.lt_of_lt_of_le (by decide) hx1.1) (hx1.2.1 5 (by decide)) rfl (x_topn (aW (aft a (lN q))) hn1.2.1 ?_)
        refine x_aload_n 30 0 (ab_dd tk_s_stop 16 rfl) rfl rfl rfl ?_
        refine t_getP 33 c (ab_dd tk_s_stop 17 rfl) rfl F_s_20 (by decide) (Nat.lt_of_lt_of_le (by decide) hx1.1) (hx1.2.1 0 (by decide)) rfl hc1 ?_
        refine t_getI 36 (ab_dd tk_s_stop 18 rfl) rfl F_s_177 hk1.1 (Nat.lt_of_le_of_lt (Nat.le_add_right c 2) hk1.2.1) hk1.2.2.1 rfl (x_topn (aR a) c11 ?_)
        refine x_callS 39 M_s_leastOf 1 2 [_, _] (ab_dd tk_s_stop 19 rfl) rfl (by first | decide | omega) K_s_leastOf T_s_leastOf L_s_191 rfl (Nat.le_of_ble_eq_true rfl) (c_s_leastOf (aW (aft a (lN q))) (aR a) hw61 hR) (fun v1 w1 h1 => ?_)
        obtain ⟨rfl, rfl⟩ := h1
        refine x_goto 46 (ab_dd tk_s_stop 20 rfl) (by decide) ?_
        rw [if_pos h19]
        exact x_iret (ab_dd tk_s_stop 24 rfl) (Or.inr ⟨(by first | exact hdd | (rw [← ekq]; exact hdd)), ⟨rfl, S1, b1, s1, rfl, hE1, hB1.up (by omega), hn1, fun z => by rw [if_pos z] at hP1; exact hP1, fun z => by rw [if_neg z] at hP1; exact hP1⟩⟩)
    · refine x_bipush 11 (-11) (ab_dd tk_s_stop 5 rfl) rfl (by decide) ?_
      exact x_iret (ab_dd tk_s_stop 6 rfl) (Or.inl ⟨fun z => h6 (le3_lt4 z.2), ⟨rfl, S, b, st, rfl, sEq.rf, h.up (by omega), ht, fun z => z.elim, fun _ => hp⟩⟩)
def tb_s_month : List (Nat × Instr × Nat) := [(0, .iload_n 1, 1), (1, .ifCond .lt 9, 3), (4, .iload_n 1, 1), (5, .bipush 10, 2), (7, .if_icmp .lt 6, 3), (10, .bipush (-11), 2), (12, .ireturn, 1), (13, .aload_n 0, 1), (14, .getfield 27, 3), (17, .getfield 180, 3), (20, .istore_n 2, 1), (21, .aload_n 0, 1), (22, .bipush 20, 2), (24, .iload_n 1, 1), (25, .iadd, 1), (26, .invokevirtual 187, 3), (29, .pop, 1), (30, .iload_n 2, 1), (31, .ireturn, 1)]
theorem tk_s_month : ∀ q ∈ tb_s_month, decode M_s_month.2.1 q.1 = .ok q.2 := by decide +kernel
theorem p_s_month {G : ab_G} {S : ab_S} {im : Nat → Prop} {a b : Nat → Int32} {c bh nb st st2 u : Nat} (h : kBd S im a c b bh nb st st2 u) (ht : sdE S 55 (rowT a)) (hu : u + 64 < 2 ^ 20) {n s : Nat} {f : Nat → sT} (hp : paI S n s f) (d : Int32) : ab_C G 7 M_s_month [.ref 50, .int d] (sw S) (fun v w' => (¬ (0 ≤ d ∧ d ≤ 9) ∧ pDe S im a c bh nb st2 u n s f (some (.int (-11))) a False v w') ∨ ((0 ≤ d ∧ d ≤ 9) ∧ pDe S im a c bh nb st2 u n s f (some (.int (a 40))) (aft a (lN (20 + cN d))) (aWy a (lN (20 + cN d)) = 0) v w')) := by
  refine x_enter [some (.ref 50), some (.int d), none] (by decide) (Nat.le_of_ble_eq_true rfl) rfl (fun v w' h => by rcases h with ⟨-, rfl, -⟩ | ⟨-, rfl, -⟩ <;> rfl) ?_
  have hbh := h.bh.1
  have h0 := h
  obtain ⟨hx, hse, kc, ⟨him, hil, h145⟩, ha, hc, ⟨hb1, hb2, hcl, hnb⟩, hcl9, -, hid, -, hu1, hu2⟩ := h0
  have h40 : sI S 55 3 = a 40 := ht.2.2.2.1.trans ha.1.m40.1.symm
  have hca := hcl.1.sta hb2.sy
  obtain ⟨hk, c1, -⟩ := hca
  have hR := ha.1.R.2
  have h50 : 50 ≤ sn S := by omega
  have hw6 : aW a < 625 := by have := (rowT_in ha.1).2.1; have := p5_6 hR; omega
  have hsl := seaC_lt ha.1
  refine x_iload_n 1 1 (ab_dd tk_s_month 0 rfl) rfl rfl rfl ?_
  refine x_if_lt 4 10 (ab_dd tk_s_month 1 rfl) rfl (by decide) (fun h1 => ?_) (fun h1 => ?_)
  · refine x_bipush 12 (-11) (ab_dd tk_s_month 5 rfl) rfl (by decide) ?_
    exact x_iret (ab_dd tk_s_month 6 rfl) (Or.inl ⟨fun z => absurd h1 (Int32.not_lt.mpr z.1), ⟨rfl, S, b, st, rfl, sEq.rf, h.up (by omega), ht, fun z => z.elim, fun _ => hp⟩⟩)
  · refine x_iload_n 5 1 (ab_dd tk_s_month 2 rfl) rfl rfl rfl ?_
    refine x_bipush 7 10 (ab_dd tk_s_month 3 rfl) rfl (by decide) (x_topn 10 rfl ?_)
    refine x_icmp_lt 10 13 (ab_dd tk_s_month 4 rfl) rfl (by decide) (fun h7 => ?_) (fun h7 => ?_)
    · have hdd : 0 ≤ d ∧ d ≤ 9 := ⟨Int32.not_lt.mp h1, lt10_le9 h7⟩
      obtain ⟨q, hq, ekq, enq⟩ := in_get (n := 9) (by decide) hdd
      rw [show some (Value.int d) = some (Value.int (nI q)) by rw [ekq], enq]
      refine x_aload_n 14 0 (ab_dd tk_s_month 7 rfl) rfl rfl rfl ?_
      refine t_getP 17 55 (ab_dd tk_s_month 8 rfl) rfl F_s_27 (by decide) (Nat.lt_of_lt_of_le (by decide) hx.1) (hx.2.1 0 (by decide)) rfl (hx.2.2 (50, 3, 55) (by decide)) ?_
      refine t_getI 20 (ab_dd tk_s_month 9 rfl) rfl F_s_180 (by decide) (Nat.lt_of_lt_of_le (by decide) hx.1) (hx.2.1 5 (by decide)) rfl (x_topx (a 40) h40 ?_)
      refine x_istore_n 21 [some (.ref 50), some (.int (nI q)), some (.int ((a 40)))] 2 (ab_dd tk_s_month 10 rfl) rfl rfl (by decide) rfl ?_
      refine x_aload_n 22 0 (ab_dd tk_s_month 11 rfl) rfl rfl rfl ?_
      refine x_bipush 24 20 (ab_dd tk_s_month 12 rfl) rfl (by decide) (x_topn 20 rfl ?_)
      refine x_iload_n 25 1 (ab_dd tk_s_month 13 rfl) rfl rfl rfl ?_
      refine x_iadd 26 (ab_dd tk_s_month 14 rfl) rfl (x_topn (20 + q) (nI_add _ _) ?_)
      refine t_callV 29 M_s_doAlone 6 1 [_] (ab_dd tk_s_month 15 rfl) rfl (by first | decide | omega) K_s_doAlone V_s_doAlone.1 V_s_doAlone.2 L_s_187 rfl (Nat.le_of_ble_eq_true rfl) (by decide) (Nat.lt_of_lt_of_le (by decide) hx.1) (hx.2.1 0 (by decide)) rfl (b_s_doAlone h ht (by omega) hp (20 + q) (by omega)) (fun v1 w1 h1 => ?_)
      obtain ⟨rfl, S1, b1, s1, rfl, hE1, hB1, hn1, hP1⟩ := h1
      have hB1c := hB1
      obtain ⟨hx1, hse1, kc1, ⟨-, -, h1451⟩, ha1, hc1, ⟨-, hsb1, hcl1, -⟩, -⟩ := hB1c
      have h501 : 50 ≤ sn S1 := by omega
      have hRa : aR (aft a (lN (20 + q))) = aR a := (aft_ok ha (lN (20 + q))).2.R
      obtain ⟨hk1, c10, -⟩ := hcl1.1.sta hsb1.sy
      have c11 : sI S1 c 0 = nI (aR a) := by rw [← hRa]; exact c10
      have hw61 : aW (aft a (lN (20 + q))) < 625 := by have := (rowT_in ha1.1).2.1; have := p5_6 ha1.1.R.2; omega
      have hsl1 := seaC_lt ha1.1
      have hY := aWy_lt (a := a) (v := lN (20 + q))
      refine x_pop 30 (ab_dd tk_s_month 16 rfl) rfl rfl ?_
      refine x_iload_n 31 2 (ab_dd tk_s_month 17 rfl) rfl rfl rfl ?_
      exact x_iret (ab_dd tk_s_month 18 rfl) (Or.inr ⟨(by first | exact hdd | (rw [← ekq]; exact hdd)), ⟨rfl, S1, b1, s1, rfl, hE1, hB1.up (by omega), hn1, fun z => by rw [if_pos z] at hP1; exact hP1, fun z => by rw [if_neg z] at hP1; exact hP1⟩⟩)
    · refine x_bipush 12 (-11) (ab_dd tk_s_month 5 rfl) rfl (by decide) ?_
      exact x_iret (ab_dd tk_s_month 6 rfl) (Or.inl ⟨fun z => h7 (le9_lt10 z.2), ⟨rfl, S, b, st, rfl, sEq.rf, h.up (by omega), ht, fun z => z.elim, fun _ => hp⟩⟩)
def tb_s_rug : List (Nat × Instr × Nat) := [(0, .aload_n 0, 1), (1, .iload_n 1, 1), (2, .i2l, 1), (3, .invokevirtual 130, 3), (6, .ifCond .ne 6, 3), (9, .bipush (-11), 2), (11, .ireturn, 1), (12, .aload_n 0, 1), (13, .getfield 27, 3), (16, .getfield 145, 3), (19, .iload_n 1, 1), (20, .invokestatic 148, 3), (23, .istore_n 2, 1), (24, .aload_n 0, 1), (25, .bipush 10, 2), (27, .iload_n 1, 1), (28, .iadd, 1), (29, .invokevirtual 187, 3), (32, .pop, 1), (33, .iload_n 2, 1), (34, .ireturn, 1)]
theorem tk_s_rug : ∀ q ∈ tb_s_rug, decode M_s_rug.2.1 q.1 = .ok q.2 := by decide +kernel
theorem p_s_rug {G : ab_G} {S : ab_S} {im : Nat → Prop} {a b : Nat → Int32} {c bh nb st st2 u : Nat} (h : kBd S im a c b bh nb st st2 u) (ht : sdE S 55 (rowT a)) (hu : u + 64 < 2 ^ 20) {n s : Nat} {f : Nat → sT} (hp : paI S n s f) (p : Int32) : ab_C G 7 M_s_rug [.ref 50, .int p] (sw S) (fun v w' => (¬ (0 ≤ p ∧ cN p < aR a) ∧ pDe S im a c bh nb st2 u n s f (some (.int (-11))) a False v w') ∨ ((0 ≤ p ∧ cN p < aR a) ∧ pDe S im a c bh nb st2 u n s f (some (.int (nI (mWa (aW a) (cN p))))) (aft a (lN (10 + cN p))) (aWy a (lN (10 + cN p)) = 0) v w')) := by
  refine x_enter [some (.ref 50), some (.int p), none] (by decide) (Nat.le_of_ble_eq_true rfl) rfl (fun v w' h => by rcases h with ⟨-, rfl, -⟩ | ⟨-, rfl, -⟩ <;> rfl) ?_
  have hbh := h.bh.1
  have h0 := h
  obtain ⟨hx, hse, kc, ⟨him, hil, h145⟩, ha, hc, ⟨hb1, hb2, hcl, hnb⟩, hcl9, -, hid, -, hu1, hu2⟩ := h0
  have h40 : sI S 55 3 = a 40 := ht.2.2.2.1.trans ha.1.m40.1.symm
  have hca := hcl.1.sta hb2.sy
  obtain ⟨hk, c1, -⟩ := hca
  have hR := ha.1.R.2
  have h50 : 50 ≤ sn S := by omega
  have hw6 : aW a < 625 := by have := (rowT_in ha.1).2.1; have := p5_6 hR; omega
  have hsl := seaC_lt ha.1
  refine x_aload_n 1 0 (ab_dd tk_s_rug 0 rfl) rfl rfl rfl ?_
  refine x_iload_n 2 1 (ab_dd tk_s_rug 1 rfl) rfl rfl rfl ?_
  refine x_i2l 3 (ab_dd tk_s_rug 2 rfl) rfl ?_
  refine t_callV 6 M_s_isRider 0 1 [_] (ab_dd tk_s_rug 3 rfl) rfl (by first | decide | omega) K_s_isRider V_s_isRider.1 V_s_isRider.2 L_s_130 rfl (Nat.le_of_ble_eq_true rfl) (by decide) (Nat.lt_of_lt_of_le (by decide) hx.1) (hx.2.1 0 (by decide)) rfl (cx_isRider (by exact hx) hc hk hR c1 p) (fun v1 w1 h1 => ?_)
  obtain ⟨rfl, rfl⟩ := h1
  refine xb_if_ne 9 12 (ab_dd tk_s_rug 4 rfl) rfl (by decide) (fun h6 => ?_) (fun h6 => ?_)
  · have hdd := h6
    obtain ⟨q, ekq, enq⟩ : ∃ q, p = nI q ∧ cN p = q := ⟨cN p, nI_cN h6.1, rfl⟩
    rw [show some (Value.int p) = some (Value.int (nI q)) by rw [ekq], enq]
    have hq4 : q < 4 := by have := hdd.2; omega
    rw [enq] at hdd
    refine x_aload_n 13 0 (ab_dd tk_s_rug 7 rfl) rfl rfl rfl ?_
    refine t_getP 16 55 (ab_dd tk_s_rug 8 rfl) rfl F_s_27 (by decide) (Nat.lt_of_lt_of_le (by decide) hx.1) (hx.2.1 0 (by decide)) rfl (hx.2.2 (50, 3, 55) (by decide)) ?_
    refine t_getI 19 (ab_dd tk_s_rug 9 rfl) rfl F_s_145 (by decide) (Nat.lt_of_lt_of_le (by decide) hx.1) (hx.2.1 5 (by decide)) rfl (x_topn (aW a) ht.2.1 ?_)
    refine x_iload_n 20 1 (ab_dd tk_s_rug 10 rfl) rfl rfl rfl ?_
    refine x_callS 23 M_s_warmthOf 0 2 [_, _] (ab_dd tk_s_rug 11 rfl) rfl (by first | decide | omega) K_s_warmthOf T_s_warmthOf L_s_148 rfl (Nat.le_of_ble_eq_true rfl) (c_s_warmthOf kc h50 (aW a) q hw6 hq4) (fun v1 w1 h1 => ?_)
    obtain ⟨rfl, rfl⟩ := h1
    refine x_istore_n 24 [some (.ref 50), some (.int (nI q)), some (.int (nI (mWa (aW a) q)))] 2 (ab_dd tk_s_rug 12 rfl) rfl rfl (by decide) rfl ?_
    refine x_aload_n 25 0 (ab_dd tk_s_rug 13 rfl) rfl rfl rfl ?_
    refine x_bipush 27 10 (ab_dd tk_s_rug 14 rfl) rfl (by decide) (x_topn 10 rfl ?_)
    refine x_iload_n 28 1 (ab_dd tk_s_rug 15 rfl) rfl rfl rfl ?_
    refine x_iadd 29 (ab_dd tk_s_rug 16 rfl) rfl (x_topn (10 + q) (nI_add _ _) ?_)
    refine t_callV 32 M_s_doAlone 6 1 [_] (ab_dd tk_s_rug 17 rfl) rfl (by first | decide | omega) K_s_doAlone V_s_doAlone.1 V_s_doAlone.2 L_s_187 rfl (Nat.le_of_ble_eq_true rfl) (by decide) (Nat.lt_of_lt_of_le (by decide) hx.1) (hx.2.1 0 (by decide)) rfl (b_s_doAlone h ht (by omega) hp (10 + q) (by omega)) (fun v1 w1 h1 => ?_)
    obtain ⟨rfl, S1, b1, s1, rfl, hE1, hB1, hn1, hP1⟩ := h1
    have hB1c := hB1
    obtain ⟨hx1, hse1, kc1, ⟨-, -, h1451⟩, ha1, hc1, ⟨-, hsb1, hcl1, -⟩, -⟩ := hB1c
    have h501 : 50 ≤ sn S1 := by omega
    have hRa : aR (aft a (lN (10 + q))) = aR a := (aft_ok ha (lN (10 + q))).2.R
    obtain ⟨hk1, c10, -⟩ := hcl1.1.sta hsb1.sy
    have c11 : sI S1 c 0 = nI (aR a) := by rw [← hRa]; exact c10
    have hw61 : aW (aft a (lN (10 + q))) < 625 := by have := (rowT_in ha1.1).2.1; have := p5_6 ha1.1.R.2; omega
    have hsl1 := seaC_lt ha1.1
    have hY := aWy_lt (a := a) (v := lN (10 + q))
    refine x_pop 33 (ab_dd tk_s_rug 18 rfl) rfl rfl ?_
    refine x_iload_n 34 2 (ab_dd tk_s_rug 19 rfl) rfl rfl rfl ?_
    exact x_iret (ab_dd tk_s_rug 20 rfl) (Or.inr ⟨hdd, ⟨rfl, S1, b1, s1, rfl, hE1, hB1.up (by omega), hn1, fun z => by rw [if_pos z] at hP1; exact hP1, fun z => by rw [if_neg z] at hP1; exact hP1⟩⟩)
  · refine x_bipush 11 (-11) (ab_dd tk_s_rug 5 rfl) rfl (by decide) ?_
    exact x_iret (ab_dd tk_s_rug 6 rfl) (Or.inl ⟨h6, ⟨rfl, S, b, st, rfl, sEq.rf, h.up (by omega), ht, fun z => z.elim, fun _ => hp⟩⟩)
