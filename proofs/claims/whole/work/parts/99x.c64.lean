/-! ===== trades, glad ===== -/
theorem kBd.gr {S S' : ab_S} {im : Nat → Prop} {a b : Nat → Int32} {c bh nb st st2 u m z : Nat} (h : kBd S im a c b bh nb st st2 u) (g : grE S S' m z) : kBd S' im a c b bh nb st st2 u := by
  have h0 := h
  obtain ⟨x1, x2, x3, ⟨x4, x5, x6⟩, x7, x8, ⟨x9, x10, x11, x12⟩, x13, -, ⟨ca, la, x16⟩, -, x18, x19⟩ := h0
  have e104 := (g.2.2.2 104 (by omega)).2.2.2
  exact h.step (gF.gr g) (x1.gr g) (fun y z => z.elim) x7 sta.rf x9 x10 (x11.gf (gF.gr g) (by omega) (fun _ _ z => z) (fun z => z) (fun z => z) (fun z => z) (fun z => z)) (kpX.of (g.2.2.2 84 (by omega)).2.1) (Nat.le_refl _) (x13.gf (gF.gr g) (by omega) (fun _ _ z => z) (fun z => z) (fun z => z) (fun z => z) (fun z => z)) (congrFun (g.2.2.2 94 (by omega)).2.1 1) ⟨ca, la, by rw [e104]; exact x16⟩ (Nat.le_refl _) x18 x19
theorem gA.gr {S S' : ab_S} {im : Nat → Prop} {a b : Nat → Int32} {c bh nb st st2 u m z : Nat} (h : kBd S im a c b bh nb st st2 u) (g : grE S S' m z) : gA S S' m z := by
  obtain ⟨x1, x2, x3, ⟨x4, x5, x6⟩, x7, x8, ⟨x9, x10, x11, x12⟩, x13, ⟨x14, x15⟩, x16, x17, x18, x19⟩ := h
  have e50 := (g.2.2.2 50 (by omega)).2.2.2
  have e84 := (g.2.2.2 84 (by omega)).2.2.2
  have eB : szL S' (sP S' 84 6) 0 = szL S (sP S 84 6) 0 := by
    rw [e84]
    refine szL.kp (fun q e => (g.2.2.2 _ ?_).1)
    rw [x11.2.2.2.2.2.2.1] at e
    have := Option.some.inj e
    have := x11.2.2.2.2.2.2.2.1.2
    omega
  have eR : szL S' (sP S' 50 15) 1 = szL S (sP S 50 15) 1 := by
    rw [e50]
    refine szL.kp (fun q e => (g.2.2.2 _ ?_).1)
    rcases x17 with ⟨y2, -⟩ | ⟨r0, N0, kn, rs, b1, p, hi, hb, hK, -⟩
    · rw [y2] at e; cases e
    · rw [p] at e
      have := Option.some.inj e
      have := hK.2.1
      omega
  have eF : szL S' (sP S' 50 16) 3 = szL S (sP S 50 16) 3 := by
    rw [e50]
    refine szL.kp (fun q e => (g.2.2.2 _ ?_).1)
    rcases x17 with ⟨-, y2⟩ | ⟨r0, N0, kn, rs, b1, p, hi, hb, hK, hz0, hs, k1, k2, r1, r2, h90, hI, hF⟩
    · rw [y2] at e; cases e
    · rcases hF with hF | ⟨F, M, pF, hiF, hbF, hrF, hKF, -⟩
      · rw [hF] at e; cases e
      · rw [pF] at e
        have := Option.some.inj e
        have := hKF.2.1
        omega
  unfold gA cA zA
  rw [eB, eR, eF, g.2.1, g.2.2.1]
  omega
theorem aTd_lt {a : Nat → Int32} {r : Nat} (hR : aR a ≤ 4) (hr : r < aR a) : (aTd a r).1 < aR a := trD_lt (P := aPt a) (R := aR a) (fun t r hr => pt_lt hr _ (Nat.le_refl _)) (by omega) 4 (2 ^ aR a - 1) 0 r hr
def tb_s_trades : List (Nat × Instr × Nat) := [(0, .aload_n 0, 1), (1, .iload_n 1, 1), (2, .i2l, 1), (3, .invokevirtual 130, 3), (6, .ifCond .eq 12, 3), (9, .iload_n 2, 1), (10, .ifCond .lt 8, 3), (13, .iload_n 2, 1), (14, .iconst 1, 1), (15, .if_icmp .le 6, 3), (18, .bipush (-2), 2), (20, .ireturn, 1), (21, .new 345, 3), (24, .dup, 1), (25, .aload_n 0, 1), (26, .getfield 20, 3), (29, .aload_n 0, 1), (30, .getfield 27, 3), (33, .getfield 134, 3), (36, .invokespecial 347, 3), (39, .astore_n 3, 1), (40, .iload_n 2, 1), (41, .ifCond .ne 12, 3), (44, .aload_n 3, 1), (45, .getfield 350, 3), (48, .iload_n 1, 1), (49, .iaload, 1), (50, .goto 9, 3), (53, .aload_n 3, 1), (54, .getfield 353, 3), (57, .iload_n 1, 1), (58, .iaload, 1), (59, .ireturn, 1)]
theorem tk_s_trades : ∀ q ∈ tb_s_trades, decode M_s_trades.2.1 q.1 = .ok q.2 := by decide +kernel
theorem p_s_trades {G : ab_G} {S : ab_S} {im : Nat → Prop} {a b : Nat → Int32} {c bh nb st st2 u : Nat} (h : kBd S im a c b bh nb st st2 u) (ht : sdE S 55 (rowT a)) (hu : u + 64 < 2 ^ 20) (p x : Int32) : ab_C G 7 M_s_trades [.ref 50, .int p, .int x] (sw S) (fun v w' => pAs S im a c bh nb u 4 17 (some (.int (if (0 ≤ p ∧ cN p < aR a) ∧ (0 ≤ x ∧ x ≤ 1) then (if x = 0 then nI (aTd a (cN p)).1 else nI (aTd a (cN p)).2) else -2))) v w') := by
  refine x_enter [some (.ref 50), some (.int p), some (.int x), none] (by decide) (Nat.le_of_ble_eq_true rfl) rfl (fun v w' h => by obtain ⟨rfl, -⟩ := h; rfl) ?_
  have hbh := h.bh.1
  have h0 := h
  obtain ⟨hx, hse, kc, ⟨him, hil, h145⟩, ha, hc, ⟨hb1, hb2, hcl, hnb⟩, hcl9, -, hid, -, hu1, hu2⟩ := h0
  have h40 : sI S 55 3 = a 40 := ht.2.2.2.1.trans ha.1.m40.1.symm
  have hca := hcl.1.sta hb2.sy
  obtain ⟨hk, c1, -⟩ := hca
  have hR := ha.1.R.2
  have h50 : 50 ≤ sn S := by omega
  obtain ⟨hq0, hw0, hE0⟩ := rowT_in ha.1
  have hw6 : aW a < 625 := by have := p5_6 hR; omega
  have hq24 := Nat.lt_of_lt_of_le hq0 (kFc_le (aR a))
  refine x_aload_n 1 0 (ab_dd tk_s_trades 0 rfl) rfl rfl rfl ?_
  refine x_iload_n 2 1 (ab_dd tk_s_trades 1 rfl) rfl rfl rfl ?_
  refine x_i2l 3 (ab_dd tk_s_trades 2 rfl) rfl ?_
  refine t_callV 6 M_s_isRider 0 1 [_] (ab_dd tk_s_trades 3 rfl) rfl (by first | decide | omega) K_s_isRider V_s_isRider.1 V_s_isRider.2 L_s_130 rfl (Nat.le_of_ble_eq_true rfl) (by decide) (Nat.lt_of_lt_of_le (by decide) hx.1) (hx.2.1 0 (by decide)) rfl (cx_isRider (by exact hx) hc hk hR c1 p) (fun v1 w1 h1 => ?_)
  obtain ⟨rfl, rfl⟩ := h1
  refine xb_if_eq 9 18 (ab_dd tk_s_trades 4 rfl) rfl (by decide) (fun h6 => ?_) (fun h6 => ?_)
  · refine x_bipush 20 (-2) (ab_dd tk_s_trades 10 rfl) rfl (by decide) ?_
    rw [if_neg (fun z => h6 z.1)]
    exact x_iret (ab_dd tk_s_trades 11 rfl) ⟨rfl, S, b, st, st2, rfl, fAs.rf, gA.rf, h.up (by omega), ht⟩
  · refine x_iload_n 10 2 (ab_dd tk_s_trades 5 rfl) rfl rfl rfl ?_
    refine x_if_lt 13 18 (ab_dd tk_s_trades 6 rfl) rfl (by decide) (fun h10 => ?_) (fun h10 => ?_)
    · refine x_bipush 20 (-2) (ab_dd tk_s_trades 10 rfl) rfl (by decide) ?_
      rw [if_neg (fun z => absurd h10 (Int32.not_lt.mpr z.2.1))]
      exact x_iret (ab_dd tk_s_trades 11 rfl) ⟨rfl, S, b, st, st2, rfl, fAs.rf, gA.rf, h.up (by omega), ht⟩
    · refine x_iload_n 14 2 (ab_dd tk_s_trades 7 rfl) rfl rfl rfl ?_
      refine x_iconst 15 1 (ab_dd tk_s_trades 8 rfl) rfl (by decide) (x_topn 1 rfl ?_)
      refine x_icmp_le 18 21 (ab_dd tk_s_trades 9 rfl) rfl (by decide) (fun h15 => ?_) (fun h15 => ?_)
      · have hpp := h6
        rw [if_pos ⟨hpp, Int32.not_lt.mp h10, h15⟩]
        obtain ⟨q, ekq, enq⟩ : ∃ q, p = nI q ∧ cN p = q := ⟨cN p, nI_cN h6.1, rfl⟩
        rw [show some (Value.int p) = some (Value.int (nI q)) by rw [ekq], enq]
        have hqR : q < aR a := by have := hpp.2; omega
        have hq4 : q < 4 := by omega
        refine t_newO (ci := 9) 24 (ab_dd tk_s_trades 12 rfl) rfl (show 50 ≤ sn S + 0 by omega) rfl Q_s_345 N_tr.1 N_tr.2 ?_
        have gN : grE S (pN S (.inr 9) 5) 1 5 := grE.of nwE.rf
        have hBN := h.gr gN
        have hxN : xSh (pN S (.inr 9) 5) := hBN.1
        have hcN := hBN.2.2.2.2.2.1
        have hnN : sdE (pN S (.inr 9) 5) 55 (rowT a) := ht.gf (gF.gr gN) (by omega) (fun z => z)
        have hcaN : caI (pN S (.inr 9) 5) im c a := hBN.2.2.2.2.2.2.1.2.2.1.1.sta hb2.sy
        have hkcl : c + 2 < sn S := hk.2.1
        refine x_dup 25 (ab_dd tk_s_trades 13 rfl) rfl rfl ?_
        refine x_aload_n 26 0 (ab_dd tk_s_trades 14 rfl) rfl rfl rfl ?_
        refine t_getP 29 c (ab_dd tk_s_trades 15 rfl) rfl F_s_20 (by decide) (Nat.lt_of_lt_of_le (by decide) hxN.1) (hxN.2.1 0 (by decide)) rfl hcN ?_
        refine x_aload_n 30 0 (ab_dd tk_s_trades 16 rfl) rfl rfl rfl ?_
        refine t_getP 33 55 (ab_dd tk_s_trades 17 rfl) rfl F_s_27 (by decide) (Nat.lt_of_lt_of_le (by decide) hxN.1) (hxN.2.1 0 (by decide)) rfl (hxN.2.2 (50, 3, 55) (by decide)) ?_
        refine t_getI 36 (ab_dd tk_s_trades 18 rfl) rfl F_s_134 (by decide) (Nat.lt_of_lt_of_le (by decide) hxN.1) (hxN.2.1 5 (by decide)) rfl (x_topn (seaC a) hnN.1 ?_)
        refine x_callI 39 M_tr_init 4 2 [_, _] (ab_dd tk_s_trades 19 rfl) rfl (by first | decide | omega) K_tr_init rfl rfl V_tr_init L_s_347 rfl (Nat.le_of_ble_eq_true rfl) (c_tr_init (S := (pN S (.inr 9) 5)) (im := im) (q := sn S) h145 rfl up1_s hcaN ha.1 hkcl (fun y hy z => by have := hil y z; omega) hil) (fun v1 w1 h1 => ?_)
        obtain ⟨rfl, S1, rfl, hN1, hTr, hV⟩ := h1
        have g1 : grE S S1 4 17 := grE.of hN1
        have hB1 := h.gr g1
        have hB1c := hB1
        obtain ⟨hx1, -, kc1, ⟨-, -, h1451⟩, -, hc1, ⟨-, hsb1, hcl1, -⟩, -⟩ := hB1c
        have hca1 := hcl1.1.sta hsb1.sy
        obtain ⟨hk1, c11, -⟩ := id hca1
        have hn1 : sdE S1 55 (rowT a) := ht.gf (gF.gr g1) (by omega) (fun z => z)
        have hF1 : fAs im bh S S1 := fAs.of (gF.gr g1) (by omega) (fun y _ z => z.elim) (by omega)
        refine x_astore_n 40 [some (.ref 50), some (.int (nI q)), some (.int x), some (.ref (sn S))] 3 (ab_dd tk_s_trades 20 rfl) rfl rfl (by decide) rfl ?_
        refine x_iload_n 41 2 (ab_dd tk_s_trades 21 rfl) rfl rfl rfl ?_
        refine x_if_ne 44 53 (ab_dd tk_s_trades 22 rfl) rfl (by decide) (fun h41 => ?_) (fun h41 => ?_)
        · refine x_aload_n 54 3 (ab_dd tk_s_trades 28 rfl) rfl rfl rfl ?_
          refine t_getP 57 (sn S + 3) (ab_dd tk_s_trades 29 rfl) rfl F_s_353 (show 50 ≤ sn S by omega) (Nat.lt_of_le_of_lt (Nat.le_add_right _ 3) hTr.2.1) hTr.2.2.1 rfl hTr.2.2.2.2.2.2.2.2.2.1 ?_
          refine x_iload_n 58 1 (ab_dd tk_s_trades 30 rfl) rfl rfl rfl ?_
          refine t_iald 59 q (ab_dd tk_s_trades 31 rfl) rfl (show 50 ≤ sn S + 3 by omega) (show sn S + 3 < sn S1 by have := hTr.2.1; omega) hTr.2.2.2.2.2.1 rfl (by omega) (by decide) (x_topn ((aTd a q).2) ((hV q hqR).2) ?_)
          rw [if_neg h41]
          exact x_iret (ab_dd tk_s_trades 32 rfl) ⟨rfl, S1, b, st, st2, rfl, hF1, gA.gr h g1, hB1.up (by omega), hn1⟩
        · refine x_aload_n 45 3 (ab_dd tk_s_trades 23 rfl) rfl rfl rfl ?_
          refine t_getP 48 (sn S + 2) (ab_dd tk_s_trades 24 rfl) rfl F_s_350 (show 50 ≤ sn S by omega) (Nat.lt_of_le_of_lt (Nat.le_add_right _ 3) hTr.2.1) hTr.2.2.1 rfl hTr.2.2.2.2.2.2.2.2.1 ?_
          refine x_iload_n 49 1 (ab_dd tk_s_trades 25 rfl) rfl rfl rfl ?_
          refine t_iald 50 q (ab_dd tk_s_trades 26 rfl) rfl (show 50 ≤ sn S + 2 by omega) (show sn S + 2 < sn S1 by have := hTr.2.1; omega) hTr.2.2.2.2.1 rfl (by omega) (by decide) (x_topn ((aTd a q).1) ((hV q hqR).1) ?_)
          refine x_goto 59 (ab_dd tk_s_trades 27 rfl) (by decide) ?_
          rw [if_pos h41]
          exact x_iret (ab_dd tk_s_trades 32 rfl) ⟨rfl, S1, b, st, st2, rfl, hF1, gA.gr h g1, hB1.up (by omega), hn1⟩
      · refine x_bipush 20 (-2) (ab_dd tk_s_trades 10 rfl) rfl (by decide) ?_
        rw [if_neg (fun z => h15 z.2.2)]
        exact x_iret (ab_dd tk_s_trades 11 rfl) ⟨rfl, S, b, st, st2, rfl, fAs.rf, gA.rf, h.up (by omega), ht⟩
def tb_s_glad : List (Nat × Instr × Nat) := [(0, .new 345, 3), (3, .dup, 1), (4, .aload_n 0, 1), (5, .getfield 20, 3), (8, .aload_n 0, 1), (9, .getfield 27, 3), (12, .getfield 134, 3), (15, .invokespecial 347, 3), (18, .astore_n 1, 1), (19, .iconst 0, 1), (20, .istore_n 2, 1), (21, .iconst 0, 1), (22, .istore_n 3, 1), (23, .iload_n 3, 1), (24, .aload_n 0, 1), (25, .getfield 20, 3), (28, .getfield 177, 3), (31, .if_icmp .ge 62, 3), (34, .aload_n 0, 1), (35, .getfield 20, 3), (38, .iload_n 3, 1), (39, .aload_n 0, 1), (40, .getfield 27, 3), (43, .getfield 134, 3), (46, .iload_n 3, 1), (47, .invokestatic 137, 3), (50, .invokevirtual 157, 3), (53, .istore 4, 2), (55, .aload_n 0, 1), (56, .getfield 20, 3), (59, .iload_n 3, 1), (60, .aload_n 0, 1), (61, .getfield 27, 3), (64, .getfield 134, 3), (67, .aload_n 1, 1), (68, .getfield 350, 3), (71, .iload_n 3, 1), (72, .iaload, 1), (73, .invokestatic 137, 3), (76, .invokevirtual 157, 3), (79, .iload 4, 2), (81, .if_icmp .le 6, 3), (84, .iinc 2 1, 3), (87, .iinc 3 1, 3), (90, .goto (-67), 3), (93, .iload_n 2, 1), (94, .ireturn, 1)]
theorem tk_s_glad : ∀ q ∈ tb_s_glad, decode M_s_glad.2.1 q.1 = .ok q.2 := by decide +kernel
theorem p_s_glad {G : ab_G} {S : ab_S} {im : Nat → Prop} {a b : Nat → Int32} {c bh nb st st2 u : Nat} (h : kBd S im a c b bh nb st st2 u) (ht : sdE S 55 (rowT a)) (hu : u + 64 < 2 ^ 20) : ab_C G 7 M_s_glad [.ref 50] (sw S) (fun v w' => pAs S im a c bh nb u 4 17 (some (.int (nI (aGl a (aR a))))) v w') := by
  refine x_enter [some (.ref 50), none, none, none, none] (by decide) (Nat.le_of_ble_eq_true rfl) rfl (fun v w' h => by obtain ⟨rfl, -⟩ := h; rfl) ?_
  have hbh := h.bh.1
  have h0 := h
  obtain ⟨hx, hse, kc, ⟨him, hil, h145⟩, ha, hc, ⟨hb1, hb2, hcl, hnb⟩, hcl9, -, hid, -, hu1, hu2⟩ := h0
  have h40 : sI S 55 3 = a 40 := ht.2.2.2.1.trans ha.1.m40.1.symm
  have hca := hcl.1.sta hb2.sy
  obtain ⟨hk, c1, -⟩ := hca
  have hR := ha.1.R.2
  have h50 : 50 ≤ sn S := by omega
  obtain ⟨hq0, hw0, hE0⟩ := rowT_in ha.1
  have hw6 : aW a < 625 := by have := p5_6 hR; omega
  have hq24 := Nat.lt_of_lt_of_le hq0 (kFc_le (aR a))
  refine t_newO (ci := 9) 3 (ab_dd tk_s_glad 0 rfl) rfl (show 50 ≤ sn S + 0 by omega) rfl Q_s_345 N_tr.1 N_tr.2 ?_
  have gN : grE S (pN S (.inr 9) 5) 1 5 := grE.of nwE.rf
  have hBN := h.gr gN
  have hxN : xSh (pN S (.inr 9) 5) := hBN.1
  have hcN := hBN.2.2.2.2.2.1
  have hnN : sdE (pN S (.inr 9) 5) 55 (rowT a) := ht.gf (gF.gr gN) (by omega) (fun z => z)
  have hcaN : caI (pN S (.inr 9) 5) im c a := hBN.2.2.2.2.2.2.1.2.2.1.1.sta hb2.sy
  have hkcl : c + 2 < sn S := hk.2.1
  refine x_dup 4 (ab_dd tk_s_glad 1 rfl) rfl rfl ?_
  refine x_aload_n 5 0 (ab_dd tk_s_glad 2 rfl) rfl rfl rfl ?_
  refine t_getP 8 c (ab_dd tk_s_glad 3 rfl) rfl F_s_20 (by decide) (Nat.lt_of_lt_of_le (by decide) hxN.1) (hxN.2.1 0 (by decide)) rfl hcN ?_
  refine x_aload_n 9 0 (ab_dd tk_s_glad 4 rfl) rfl rfl rfl ?_
  refine t_getP 12 55 (ab_dd tk_s_glad 5 rfl) rfl F_s_27 (by decide) (Nat.lt_of_lt_of_le (by decide) hxN.1) (hxN.2.1 0 (by decide)) rfl (hxN.2.2 (50, 3, 55) (by decide)) ?_
  refine t_getI 15 (ab_dd tk_s_glad 6 rfl) rfl F_s_134 (by decide) (Nat.lt_of_lt_of_le (by decide) hxN.1) (hxN.2.1 5 (by decide)) rfl (x_topn (seaC a) hnN.1 ?_)
  refine x_callI 18 M_tr_init 4 2 [_, _] (ab_dd tk_s_glad 7 rfl) rfl (by first | decide | omega) K_tr_init rfl rfl V_tr_init L_s_347 rfl (Nat.le_of_ble_eq_true rfl) (c_tr_init (S := (pN S (.inr 9) 5)) (im := im) (q := sn S) h145 rfl up1_s hcaN ha.1 hkcl (fun y hy z => by have := hil y z; omega) hil) (fun v1 w1 h1 => ?_)
  obtain ⟨rfl, S1, rfl, hN1, hTr, hV⟩ := h1
  have g1 : grE S S1 4 17 := grE.of hN1
  have hB1 := h.gr g1
  have hB1c := hB1
  obtain ⟨hx1, -, kc1, ⟨-, -, h1451⟩, -, hc1, ⟨-, hsb1, hcl1, -⟩, -⟩ := hB1c
  have hca1 := hcl1.1.sta hsb1.sy
  obtain ⟨hk1, c11, -⟩ := id hca1
  have hn1 : sdE S1 55 (rowT a) := ht.gf (gF.gr g1) (by omega) (fun z => z)
  have hF1 : fAs im bh S S1 := fAs.of (gF.gr g1) (by omega) (fun y _ z => z.elim) (by omega)
  refine x_astore_n 19 [some (.ref 50), some (.ref (sn S)), none, none, none] 1 (ab_dd tk_s_glad 8 rfl) rfl rfl (by decide) rfl ?_
  refine x_iconst 20 0 (ab_dd tk_s_glad 9 rfl) rfl (by decide) (x_topn 0 rfl ?_)
  refine x_istore_n 21 [some (.ref 50), some (.ref (sn S)), some (.int (nI 0)), none, none] 2 (ab_dd tk_s_glad 10 rfl) rfl rfl (by decide) rfl ?_
  refine x_iconst 22 0 (ab_dd tk_s_glad 11 rfl) rfl (by decide) (x_topn 0 rfl ?_)
  refine x_istore_n 23 [some (.ref 50), some (.ref (sn S)), some (.int (nI 0)), some (.int (nI 0)), none] 3 (ab_dd tk_s_glad 12 rfl) rfl rfl (by decide) rfl ?_
  have loop : ∀ (m k : Nat), k + m = aR a → ∀ o4 : Option Value, ab_Ex G 7 M_s_glad 23 [some (.ref 50), some (.ref (sn S)), some (.int (nI (aGl a k))), some (.int (nI k)), o4] [] (sw S1) (fun v w' => pAs S im a c bh nb u 4 17 (some (.int (nI (aGl a (aR a))))) v w') := by
    intro m
    induction m with
    | zero =>
      intro k hk o4
      have hkq : k = aR a := by omega
      rw [hkq]
      refine x_iload_n 24 3 (ab_dd tk_s_glad 13 rfl) rfl rfl rfl ?_
      refine x_aload_n 25 0 (ab_dd tk_s_glad 14 rfl) rfl rfl rfl ?_
      refine t_getP 28 c (ab_dd tk_s_glad 15 rfl) rfl F_s_20 (by decide) (Nat.lt_of_lt_of_le (by decide) hx1.1) (hx1.2.1 0 (by decide)) rfl hc1 ?_
      refine t_getI 31 (ab_dd tk_s_glad 16 rfl) rfl F_s_177 hk1.1 (Nat.lt_of_le_of_lt (Nat.le_add_right c 2) hk1.2.1) hk1.2.2.1 rfl (x_topn (aR a) c11 ?_)
      refine x_icmp_ge_t 93 (ab_dd tk_s_glad 17 rfl) (by decide) ((nI_leI (a := (aR a)) (b := (aR a)) (by omega) (by omega)).mpr (show (aR a) ≤ (aR a) by omega)) ?_
      refine x_iload_n 94 2 (ab_dd tk_s_glad 45 rfl) rfl rfl rfl ?_
      exact x_iret (ab_dd tk_s_glad 46 rfl) ⟨rfl, S1, b, st, st2, rfl, hF1, gA.gr h g1, hB1.up (by omega), hn1⟩
    | succ m ih =>
      intro k hk o4
      have hkR : k < aR a := by omega
      have htd := aTd_lt hR hkR
      have hgl := aGl_le a k
      have hd1 : d4 (seaC a) k < 4 := by rw [seaC_d ha.1 (by omega)]; exact (ha.1.sn (by omega)).2
      have hd2 : d4 (seaC a) (aTd a k).1 < 4 := by rw [seaC_d ha.1 (by omega)]; exact (ha.1.sn (by omega)).2
      have hsl := seaC_lt ha.1
      have el1 : a (12 + 4 * k + d4 (seaC a) k) = lk a k k := by unfold lk; rw [seaC_d ha.1 (by omega)]
      have el2 : a (12 + 4 * k + d4 (seaC a) (aTd a k).1) = lk a k (aTd a k).1 := by unfold lk; rw [seaC_d ha.1 (by omega)]
      refine x_iload_n 24 3 (ab_dd tk_s_glad 13 rfl) rfl rfl rfl ?_
      refine x_aload_n 25 0 (ab_dd tk_s_glad 14 rfl) rfl rfl rfl ?_
      refine t_getP 28 c (ab_dd tk_s_glad 15 rfl) rfl F_s_20 (by decide) (Nat.lt_of_lt_of_le (by decide) hx1.1) (hx1.2.1 0 (by decide)) rfl hc1 ?_
      refine t_getI 31 (ab_dd tk_s_glad 16 rfl) rfl F_s_177 hk1.1 (Nat.lt_of_le_of_lt (Nat.le_add_right c 2) hk1.2.1) hk1.2.2.1 rfl (x_topn (aR a) c11 ?_)
      refine x_icmp_ge_f 34 (ab_dd tk_s_glad 17 rfl) rfl 93 (by decide) (fun z => absurd ((nI_leI (a := (aR a)) (b := k) (by omega) (by omega)).mp z) (show ¬ ((aR a) ≤ k) by omega)) ?_
      refine x_aload_n 35 0 (ab_dd tk_s_glad 18 rfl) rfl rfl rfl ?_
      refine t_getP 38 c (ab_dd tk_s_glad 19 rfl) rfl F_s_20 (by decide) (Nat.lt_of_lt_of_le (by decide) hx1.1) (hx1.2.1 0 (by decide)) rfl hc1 ?_
      refine x_iload_n 39 3 (ab_dd tk_s_glad 20 rfl) rfl rfl rfl ?_
      refine x_aload_n 40 0 (ab_dd tk_s_glad 21 rfl) rfl rfl rfl ?_
      refine t_getP 43 55 (ab_dd tk_s_glad 22 rfl) rfl F_s_27 (by decide) (Nat.lt_of_lt_of_le (by decide) hx1.1) (hx1.2.1 0 (by decide)) rfl (hx1.2.2 (50, 3, 55) (by decide)) ?_
      refine t_getI 46 (ab_dd tk_s_glad 23 rfl) rfl F_s_134 (by decide) (Nat.lt_of_lt_of_le (by decide) hx1.1) (hx1.2.1 5 (by decide)) rfl (x_topn (seaC a) hn1.1 ?_)
      refine x_iload_n 47 3 (ab_dd tk_s_glad 24 rfl) rfl rfl rfl ?_
      refine x_callS 50 M_s_seasonOf 0 2 [_, _] (ab_dd tk_s_glad 25 rfl) rfl (by first | decide | omega) K_s_seasonOf T_s_seasonOf L_s_137 rfl (Nat.le_of_ble_eq_true rfl) (c_s_seasonOf (seaC a) k hsl (by omega)) (fun v1 w1 h1 => ?_)
      obtain ⟨rfl, rfl⟩ := h1
      refine t_callV 53 M_ca_liking 0 2 [_, _] (ab_dd tk_s_glad 26 rfl) rfl (by first | decide | omega) K_ca_liking V_ca_liking.1 V_ca_liking.2 L_s_157 rfl (Nat.le_of_ble_eq_true rfl) hk1.1 (Nat.lt_of_le_of_lt (Nat.le_add_right c 2) hk1.2.1) hk1.2.2.1 rfl (c_ca_liking hca1 k (d4 (seaC a) k) (by omega) hd1) (fun v1 w1 h1 => ?_)
      obtain ⟨rfl, rfl⟩ := h1
      refine x_istore 55 [some (.ref 50), some (.ref (sn S)), some (.int (nI (aGl a k))), some (.int (nI k)), some (.int (a (12 + 4 * k + (d4 (seaC a) k))))] 4 (ab_dd tk_s_glad 27 rfl) rfl (by decide) rfl ?_
      refine x_aload_n 56 0 (ab_dd tk_s_glad 28 rfl) rfl rfl rfl ?_
      refine t_getP 59 c (ab_dd tk_s_glad 29 rfl) rfl F_s_20 (by decide) (Nat.lt_of_lt_of_le (by decide) hx1.1) (hx1.2.1 0 (by decide)) rfl hc1 ?_
      refine x_iload_n 60 3 (ab_dd tk_s_glad 30 rfl) rfl rfl rfl ?_
      refine x_aload_n 61 0 (ab_dd tk_s_glad 31 rfl) rfl rfl rfl ?_
      refine t_getP 64 55 (ab_dd tk_s_glad 32 rfl) rfl F_s_27 (by decide) (Nat.lt_of_lt_of_le (by decide) hx1.1) (hx1.2.1 0 (by decide)) rfl (hx1.2.2 (50, 3, 55) (by decide)) ?_
      refine t_getI 67 (ab_dd tk_s_glad 33 rfl) rfl F_s_134 (by decide) (Nat.lt_of_lt_of_le (by decide) hx1.1) (hx1.2.1 5 (by decide)) rfl (x_topn (seaC a) hn1.1 ?_)
      refine x_aload_n 68 1 (ab_dd tk_s_glad 34 rfl) rfl rfl rfl ?_
      refine t_getP 71 (sn S + 2) (ab_dd tk_s_glad 35 rfl) rfl F_s_350 (show 50 ≤ sn S by omega) (Nat.lt_of_le_of_lt (Nat.le_add_right _ 3) hTr.2.1) hTr.2.2.1 rfl hTr.2.2.2.2.2.2.2.2.1 ?_
      refine x_iload_n 72 3 (ab_dd tk_s_glad 36 rfl) rfl rfl rfl ?_
      refine t_iald 73 k (ab_dd tk_s_glad 37 rfl) rfl (show 50 ≤ sn S + 2 by omega) (show sn S + 2 < sn S1 by have := hTr.2.1; omega) hTr.2.2.2.2.1 rfl (by omega) (by decide) (x_topn ((aTd a k).1) ((hV k hkR).1) ?_)
      refine x_callS 76 M_s_seasonOf 0 2 [_, _] (ab_dd tk_s_glad 38 rfl) rfl (by first | decide | omega) K_s_seasonOf T_s_seasonOf L_s_137 rfl (Nat.le_of_ble_eq_true rfl) (c_s_seasonOf (seaC a) ((aTd a k).1) hsl (by omega)) (fun v1 w1 h1 => ?_)
      obtain ⟨rfl, rfl⟩ := h1
      refine t_callV 79 M_ca_liking 0 2 [_, _] (ab_dd tk_s_glad 39 rfl) rfl (by first | decide | omega) K_ca_liking V_ca_liking.1 V_ca_liking.2 L_s_157 rfl (Nat.le_of_ble_eq_true rfl) hk1.1 (Nat.lt_of_le_of_lt (Nat.le_add_right c 2) hk1.2.1) hk1.2.2.1 rfl (c_ca_liking hca1 k (d4 (seaC a) ((aTd a k).1)) (by omega) hd2) (fun v1 w1 h1 => ?_)
      obtain ⟨rfl, rfl⟩ := h1
      refine x_iload 81 4 (ab_dd tk_s_glad 40 rfl) rfl rfl ?_
      refine x_icmp_le 84 87 (ab_dd tk_s_glad 41 rfl) rfl (by decide) (fun h81 => ?_) (fun h81 => ?_)
      · refine xn_iinc 90 3 (fun y => [some (.ref 50), some (.ref (sn S)), some (.int (nI (aGl a k))), some (.int y), some (.int (a (12 + 4 * k + (d4 (seaC a) k))))]) (k + 1) (ab_dd tk_s_glad 43 rfl) rfl (by decide) rfl (fun _ => rfl) (iinc_p 1) ?_
        refine x_goto 23 (ab_dd tk_s_glad 44 rfl) (by decide) ?_
        have e1 : aGl a (k + 1) = aGl a k := by
          show aGl a k + (if lk a k k < lk a k (aTd a k).1 then 1 else 0) = _
          rw [if_neg (by rw [← el1, ← el2]; exact Int32.not_lt.mpr h81)]
          exact Nat.add_zero _
        have ih2 := ih (k + 1) (by omega) (some (.int (a (12 + 4 * k + (d4 (seaC a) k)))))
        rw [e1] at ih2
        exact ih2
      · refine xn_iinc 87 2 (fun y => [some (.ref 50), some (.ref (sn S)), some (.int y), some (.int (nI k)), some (.int (a (12 + 4 * k + (d4 (seaC a) k))))]) ((aGl a k) + 1) (ab_dd tk_s_glad 42 rfl) rfl (by decide) rfl (fun _ => rfl) (iinc_p 1) ?_
        refine xn_iinc 90 3 (fun y => [some (.ref 50), some (.ref (sn S)), some (.int (nI ((aGl a k) + 1))), some (.int y), some (.int (a (12 + 4 * k + (d4 (seaC a) k))))]) (k + 1) (ab_dd tk_s_glad 43 rfl) rfl (by decide) rfl (fun _ => rfl) (iinc_p 1) ?_
        refine x_goto 23 (ab_dd tk_s_glad 44 rfl) (by decide) ?_
        have e1 : aGl a (k + 1) = aGl a k + 1 := by
          show aGl a k + (if lk a k k < lk a k (aTd a k).1 then 1 else 0) = _
          rw [if_pos (by rw [← el1, ← el2]; exact Int32.not_le.mp h81)]
        have ih2 := ih (k + 1) (by omega) (some (.int (a (12 + 4 * k + (d4 (seaC a) k)))))
        rw [e1] at ih2
        exact ih2
  exact loop (aR a) 0 (by omega) none
