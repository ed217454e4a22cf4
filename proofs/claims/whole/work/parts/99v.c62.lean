/-! ===== judge ===== -/
theorem aTl_w {f : Nat → Int64} : ∀ m k a, ((aTl f m k a).2.1 = 0 ↔ (aTl f m k a).1 = k + m) ∧ ((aTl f m k a).1 < k + m → (aTl f m k a).2.1 = aWy (aTl f m k a).2.2 (f (aTl f m k a).1))
  | 0, k, a => ⟨⟨fun _ => rfl, fun _ => rfl⟩, fun z => absurd z (Nat.lt_irrefl k)⟩
  | m + 1, k, a => by
    by_cases hz : aWy a (f k) = 0
    · have e : aTl f (m + 1) k a = aTl f m (k + 1) (aDo a (jW (f k))) := by
        show (if aWy a (f k) = 0 then _ else _) = _
        rw [if_pos hz]
      have i := aTl_w (f := f) m (k + 1) (aDo a (jW (f k)))
      rw [e, show k + (m + 1) = k + 1 + m by omega]
      exact i
    · have e : aTl f (m + 1) k a = (k, aWy a (f k), a) := by
        show (if aWy a (f k) = 0 then _ else _) = _
        rw [if_neg hz]
      rw [e]
      exact ⟨⟨fun z => absurd z hz, fun z => absurd z (by show ¬ k = k + (m + 1); omega)⟩, fun _ => rfl⟩
def tb_s_judge : List (Nat × Instr × Nat) := [(0, .aload_n 0, 1), (1, .iload_n 1, 1), (2, .invokevirtual 209, 3), (5, .astore_n 3, 1), (6, .aload_n 3, 1), (7, .ifnull 12, 3), (10, .iload_n 2, 1), (11, .ifCond .lt 8, 3), (14, .iload_n 2, 1), (15, .iconst 3, 1), (16, .if_icmp .le 6, 3), (19, .bipush (-2), 2), (21, .ireturn, 1), (22, .aload_n 3, 1), (23, .invokevirtual 213, 3), (26, .ifCond .eq 6, 3), (29, .bipush (-6), 2), (31, .ireturn, 1), (32, .aload_n 0, 1), (33, .getfield 31, 3), (36, .aload_n 0, 1), (37, .getfield 27, 3), (40, .invokevirtual 217, 3), (43, .aload_n 0, 1), (44, .aload_n 0, 1), (45, .getfield 81, 3), (48, .aload_n 0, 1), (49, .getfield 31, 3), (52, .aload_n 3, 1), (53, .invokevirtual 220, 3), (56, .istore 4, 2), (58, .iload_n 2, 1), (59, .tableswitch 91 0 2 #[25, 41, 73], 25), (84, .iload 4, 2), (86, .aload_n 3, 1), (87, .getfield 224, 3), (90, .if_icmp .ge 8, 3), (93, .iload 4, 2), (95, .goto 4, 3), (98, .iconst (-1), 1), (99, .ireturn, 1), (100, .iload 4, 2), (102, .aload_n 3, 1), (103, .getfield 224, 3), (106, .if_icmp .ge 24, 3), (109, .aload_n 0, 1), (110, .aload_n 0, 1), (111, .getfield 81, 3), (114, .aload_n 0, 1), (115, .getfield 31, 3), (118, .aload_n 3, 1), (119, .iload 4, 2), (121, .invokevirtual 225, 3), (124, .invokevirtual 198, 3), (127, .goto 4, 3), (130, .iconst 0, 1), (131, .ireturn, 1), (132, .aload_n 0, 1), (133, .getfield 31, 3), (136, .getfield 145, 3), (139, .aload_n 0, 1), (140, .getfield 20, 3), (143, .getfield 177, 3), (146, .invokestatic 229, 3), (149, .ireturn, 1), (150, .aload_n 0, 1), (151, .getfield 20, 3), (154, .getfield 177, 3), (157, .ifCond .le 21, 3), (160, .aload_n 0, 1), (161, .getfield 68, 3), (164, .aload_n 0, 1), (165, .getfield 31, 3), (168, .getfield 151, 3), (171, .iconst 0, 1), (172, .invokevirtual 160, 3), (175, .goto 4, 3), (178, .iconst (-1), 1), (179, .ireturn, 1)]
theorem tk_s_judge : ∀ q ∈ tb_s_judge, decode M_s_judge.2.1 q.1 = .ok q.2 := by decide +kernel
theorem p_s_judge {G : ab_G} {S : ab_S} {im : Nat → Prop} {a b : Nat → Int32} {c bh nb st st2 u : Nat} (h : kBd S im a c b bh nb st st2 u) (ht : sdE S 55 (rowT a)) (hu : u + 64 < 2 ^ 20) (hT : ∀ t, t < 4 → sI S (109 + 2 * t) 2 = -1 ∨ ∃ m, m ≤ 40 ∧ sI S (109 + 2 * t) 2 = nI m) (e x : Int32) : ab_C G 7 M_s_judge [.ref 50, .int e, .int x] (sw S) (fun v w' => (¬ ((0 ≤ e ∧ e ≤ 3) ∧ (0 ≤ x ∧ x ≤ 3)) ∧ pAs S im a c bh nb u 0 0 (some (.int (-2))) v w') ∨ (((0 ≤ e ∧ e ≤ 3) ∧ (0 ≤ x ∧ x ≤ 3)) ∧ sI S (109 + 2 * cN e) 2 = -1 ∧ pAs S im a c bh nb u 0 0 (some (.int (-6))) v w') ∨ (((0 ≤ e ∧ e ≤ 3) ∧ (0 ≤ x ∧ x ≤ 3)) ∧ ∃ m, m ≤ 40 ∧ sI S (109 + 2 * (cN e)) 2 = nI m ∧ pAs S im a c bh nb u 0 0 (some (.int (aJu a (sJ S (110 + 2 * (cN e))) m x))) v w')) := by
  refine x_enter [some (.ref 50), some (.int e), some (.int x), none, none] (by decide) (Nat.le_of_ble_eq_true rfl) rfl (fun v w' h => by rcases h with ⟨-, rfl, -⟩ | ⟨-, -, rfl, -⟩ | ⟨-, m, -, -, rfl, -⟩ <;> rfl) ?_
  have hbh := h.bh.1
  have h0 := h
  obtain ⟨hx, hse, kc, ⟨him, hil, h145⟩, ha, hc, ⟨hb1, hb2, hcl, hnb⟩, hcl9, -, hid, -, hu1, hu2⟩ := h0
  have h40 : sI S 55 3 = a 40 := ht.2.2.2.1.trans ha.1.m40.1.symm
  have hca := hcl.1.sta hb2.sy
  obtain ⟨hk, c1, -⟩ := hca
  have hR := ha.1.R.2
  have h50 : 50 ≤ sn S := by omega
  obtain ⟨hq0, hw0, hE0⟩ := rowT_in ha.1
  have hw6 : aW a < 625 := by have := p5_6 hR; omega
  have hq24 := Nat.lt_of_lt_of_le hq0 (kFc_le (aR a))
  by_cases hdd : 0 ≤ e ∧ e ≤ 3
  · obtain ⟨q, hq, ekq, enq⟩ := in_get (n := 3) (by decide) hdd
    rw [show some (Value.int e) = some (Value.int (nI q)) by rw [ekq], enq]
    rcases hT q (by omega) with hm | ⟨m, hm40, hm⟩
    · refine x_aload_n 1 0 (ab_dd tk_s_judge 0 rfl) rfl rfl rfl ?_
      refine x_iload_n 2 1 (ab_dd tk_s_judge 1 rfl) rfl rfl rfl ?_
      refine t_callV 5 M_s_trayAt 0 1 [_] (ab_dd tk_s_judge 2 rfl) rfl (by first | decide | omega) K_s_trayAt V_s_trayAt.1 V_s_trayAt.2 L_s_209 rfl (Nat.le_of_ble_eq_true rfl) (by decide) (Nat.lt_of_lt_of_le (by decide) hx.1) (hx.2.1 0 (by decide)) rfl (c_s_trayAt hx q (by omega)) (fun v1 w1 h1 => ?_)
      obtain ⟨rfl, rfl⟩ := h1
      refine x_astore_n 6 [some (.ref 50), some (.int (nI q)), some (.int x), some (.ref (109 + 2 * q)), none] 3 (ab_dd tk_s_judge 3 rfl) rfl rfl (by decide) rfl ?_
      refine x_aload_n 7 3 (ab_dd tk_s_judge 4 rfl) rfl rfl rfl ?_
      refine x_ifnull_f 10 (ab_dd tk_s_judge 5 rfl) rfl ?_
      refine x_iload_n 11 2 (ab_dd tk_s_judge 6 rfl) rfl rfl rfl ?_
      refine x_if_lt 14 19 (ab_dd tk_s_judge 7 rfl) rfl (by decide) (fun h11 => ?_) (fun h11 => ?_)
      · refine x_bipush 21 (-2) (ab_dd tk_s_judge 11 rfl) rfl (by decide) ?_
        exact x_iret (ab_dd tk_s_judge 12 rfl) (Or.inl ⟨fun z => absurd h11 (Int32.not_lt.mpr z.2.1), ⟨rfl, S, b, st, st2, rfl, fAs.rf, gA.rf, h.up (by omega), ht⟩⟩)
      · refine x_iload_n 15 2 (ab_dd tk_s_judge 8 rfl) rfl rfl rfl ?_
        refine x_iconst 16 3 (ab_dd tk_s_judge 9 rfl) rfl (by decide) (x_topn 3 rfl ?_)
        refine x_icmp_le 19 22 (ab_dd tk_s_judge 10 rfl) rfl (by decide) (fun h16 => ?_) (fun h16 => ?_)
        · refine x_aload_n 23 3 (ab_dd tk_s_judge 13 rfl) rfl rfl rfl ?_
          refine t_callV 26 M_ty_isMissing 0 0 [] (ab_dd tk_s_judge 14 rfl) rfl (by first | decide | omega) K_ty_isMissing V_ty_isMissing.1 V_ty_isMissing.2 L_s_213 rfl (Nat.le_of_ble_eq_true rfl) (by omega) (Nat.lt_of_lt_of_le (show (109 + 2 * q) < 120 by omega) hx.1) (x_109 hx (by omega)) rfl (c_ty_isMissing hx (by omega) (-1) hm) (fun v1 w1 h1 => ?_)
          obtain ⟨rfl, rfl⟩ := h1
          refine x_if_eq_f 29 (ab_dd tk_s_judge 15 rfl) rfl 32 (by decide) (by decide) ?_
          refine x_bipush 31 (-6) (ab_dd tk_s_judge 16 rfl) rfl (by decide) ?_
          exact x_iret (ab_dd tk_s_judge 17 rfl) (Or.inr (Or.inl ⟨⟨hdd, Int32.not_lt.mp h11, h16⟩, hm, ⟨rfl, S, b, st, st2, rfl, fAs.rf, gA.rf, h.up (by omega), ht⟩⟩))
        · refine x_bipush 21 (-2) (ab_dd tk_s_judge 11 rfl) rfl (by decide) ?_
          exact x_iret (ab_dd tk_s_judge 12 rfl) (Or.inl ⟨fun z => h16 z.2.2, ⟨rfl, S, b, st, st2, rfl, fAs.rf, gA.rf, h.up (by omega), ht⟩⟩)
    · refine x_aload_n 1 0 (ab_dd tk_s_judge 0 rfl) rfl rfl rfl ?_
      refine x_iload_n 2 1 (ab_dd tk_s_judge 1 rfl) rfl rfl rfl ?_
      refine t_callV 5 M_s_trayAt 0 1 [_] (ab_dd tk_s_judge 2 rfl) rfl (by first | decide | omega) K_s_trayAt V_s_trayAt.1 V_s_trayAt.2 L_s_209 rfl (Nat.le_of_ble_eq_true rfl) (by decide) (Nat.lt_of_lt_of_le (by decide) hx.1) (hx.2.1 0 (by decide)) rfl (c_s_trayAt hx q (by omega)) (fun v1 w1 h1 => ?_)
      obtain ⟨rfl, rfl⟩ := h1
      refine x_astore_n 6 [some (.ref 50), some (.int (nI q)), some (.int x), some (.ref (109 + 2 * q)), none] 3 (ab_dd tk_s_judge 3 rfl) rfl rfl (by decide) rfl ?_
      refine x_aload_n 7 3 (ab_dd tk_s_judge 4 rfl) rfl rfl rfl ?_
      refine x_ifnull_f 10 (ab_dd tk_s_judge 5 rfl) rfl ?_
      refine x_iload_n 11 2 (ab_dd tk_s_judge 6 rfl) rfl rfl rfl ?_
      refine x_if_lt 14 19 (ab_dd tk_s_judge 7 rfl) rfl (by decide) (fun h11 => ?_) (fun h11 => ?_)
      · refine x_bipush 21 (-2) (ab_dd tk_s_judge 11 rfl) rfl (by decide) ?_
        exact x_iret (ab_dd tk_s_judge 12 rfl) (Or.inl ⟨fun z => absurd h11 (Int32.not_lt.mpr z.2.1), ⟨rfl, S, b, st, st2, rfl, fAs.rf, gA.rf, h.up (by omega), ht⟩⟩)
      · refine x_iload_n 15 2 (ab_dd tk_s_judge 8 rfl) rfl rfl rfl ?_
        refine x_iconst 16 3 (ab_dd tk_s_judge 9 rfl) rfl (by decide) (x_topn 3 rfl ?_)
        refine x_icmp_le 19 22 (ab_dd tk_s_judge 10 rfl) rfl (by decide) (fun h16 => ?_) (fun h16 => ?_)
        · refine x_aload_n 23 3 (ab_dd tk_s_judge 13 rfl) rfl rfl rfl ?_
          refine t_callV 26 M_ty_isMissing 0 0 [] (ab_dd tk_s_judge 14 rfl) rfl (by first | decide | omega) K_ty_isMissing V_ty_isMissing.1 V_ty_isMissing.2 L_s_213 rfl (Nat.le_of_ble_eq_true rfl) (by omega) (Nat.lt_of_lt_of_le (show (109 + 2 * q) < 120 by omega) hx.1) (x_109 hx (by omega)) rfl (c_ty_isMissing hx (by omega) (nI m) hm) (fun v1 w1 h1 => ?_)
          obtain ⟨rfl, rfl⟩ := h1
          refine x_if_eq_t 32 (ab_dd tk_s_judge 15 rfl) (by decide) (if_neg (nI_nn m (by omega))) ?_
          refine x_aload_n 33 0 (ab_dd tk_s_judge 18 rfl) rfl rfl rfl ?_
          refine t_getP 36 56 (ab_dd tk_s_judge 19 rfl) rfl F_s_31 (by decide) (Nat.lt_of_lt_of_le (by decide) hx.1) (hx.2.1 0 (by decide)) rfl (hx.2.2 (50, 4, 56) (by decide)) ?_
          refine x_aload_n 37 0 (ab_dd tk_s_judge 20 rfl) rfl rfl rfl ?_
          refine t_getP 40 55 (ab_dd tk_s_judge 21 rfl) rfl F_s_27 (by decide) (Nat.lt_of_lt_of_le (by decide) hx.1) (hx.2.1 0 (by decide)) rfl (hx.2.2 (50, 3, 55) (by decide)) ?_
          refine t_callV 43 M_sd_copy 0 1 [_] (ab_dd tk_s_judge 22 rfl) rfl (by first | decide | omega) K_sd_copy V_sd_copy.1 V_sd_copy.2 L_s_217 rfl (Nat.le_of_ble_eq_true rfl) (by decide) (Nat.lt_of_lt_of_le (by decide) hx.1) (hx.2.1 6 (by decide)) rfl (c_sd_copy (show sdK S 56 from x_55 hx (by decide)) (show sdK S 55 from x_55 hx (by decide)) (by decide) ht) (fun v1 w1 h1 => ?_)
          obtain ⟨rfl, S1, rfl, hE1, ht1⟩ := h1
          have hB1 := h.se hE1 (fun y hy => by simp only [List.mem_cons, List.not_mem_nil, or_false] at hy; omega)
          have hx1 : xSh S1 := hB1.1
          have hn1 : sdE S1 55 (rowT a) := ht.eq hE1 (by simp only [List.mem_cons, List.not_mem_nil, or_false, not_or]; omega)
          refine x_aload_n 44 0 (ab_dd tk_s_judge 23 rfl) rfl rfl rfl ?_
          refine x_aload_n 45 0 (ab_dd tk_s_judge 24 rfl) rfl rfl rfl ?_
          refine t_getP 48 94 (ab_dd tk_s_judge 25 rfl) rfl F_s_81 (by decide) (Nat.lt_of_lt_of_le (by decide) hx1.1) (hx1.2.1 0 (by decide)) rfl (hx1.2.2 (50, 13, 94) (by decide)) ?_
          refine x_aload_n 49 0 (ab_dd tk_s_judge 26 rfl) rfl rfl rfl ?_
          refine t_getP 52 56 (ab_dd tk_s_judge 27 rfl) rfl F_s_31 (by decide) (Nat.lt_of_lt_of_le (by decide) hx1.1) (hx1.2.1 0 (by decide)) rfl (hx1.2.2 (50, 4, 56) (by decide)) ?_
          refine x_aload_n 53 3 (ab_dd tk_s_judge 28 rfl) rfl rfl rfl ?_
          refine t_callV 56 M_s_actAll 6 3 [_, _, _] (ab_dd tk_s_judge 29 rfl) rfl (by first | decide | omega) K_s_actAll V_s_actAll.1 V_s_actAll.2 L_s_220 rfl (Nat.le_of_ble_eq_true rfl) (by decide) (Nat.lt_of_lt_of_le (by decide) hx1.1) (hx1.2.1 0 (by decide)) rfl (b_s_actAllT hB1 ha sta.rf ht1 hm40 (by omega) (tq := q) (by omega) ((congrFun (hE1.2.2.1 _ (by simp only [List.mem_cons, List.not_mem_nil, or_false, not_or]; omega)) 2).trans hm) (f := sJ S (110 + 2 * q)) (fun i _ => congrFun (hE1.2.2.2.1 _ (by simp only [List.mem_cons, List.not_mem_nil, or_false, not_or]; omega)) i)) (fun v1 w1 h1 => ?_)
          obtain ⟨rfl, S2, s22, rfl, hE2, hB2, ht2, hgA, hsA⟩ := h1
          have hB2c := hB2
          obtain ⟨hx2, hse2, kc2, ⟨-, -, h1452⟩, -, hc2, ⟨-, hsb2, hcl2, -⟩, -⟩ := hB2c
          have h502 : 50 ≤ sn S2 := by omega
          obtain ⟨hk2, c21, -⟩ := hcl2.1.sta hsb2.sy
          have hn2 : sdE S2 55 (rowT a) := hn1.eq hE2 (by simp only [List.mem_cons, List.not_mem_nil, or_false, not_or]; omega)
          have hm2 : sI S2 (109 + 2 * q) 2 = nI m := (congrFun (hE2.2.2.1 _ (by simp only [List.mem_cons, List.not_mem_nil, or_false, not_or]; omega)) 2).trans ((congrFun (hE1.2.2.1 _ (by simp only [List.mem_cons, List.not_mem_nil, or_false, not_or]; omega)) 2).trans hm)
          have eJ : sJ S2 (110 + 2 * q) = sJ S (110 + 2 * q) := (hE2.2.2.2.1 _ (by simp only [List.mem_cons, List.not_mem_nil, or_false, not_or]; omega)).trans (hE1.2.2.2.1 _ (by simp only [List.mem_cons, List.not_mem_nil, or_false, not_or]; omega))
          have hF2 : fAs im bh S S2 := (fAs.of (gF.sE hE1) (by omega) (fun y _ z => by simp only [List.mem_cons, List.not_mem_nil, or_false] at z; omega) (by omega)).tr (fAs.of (gF.sE hE2) (Nat.lt_of_lt_of_le (by decide) hx1.1) (fun y _ z => by simp only [List.mem_cons, List.not_mem_nil, or_false] at z; omega) (by omega))
          have hG2 : gA S S2 0 0 := (gA.sE hE1).tr (gA.sE hE2)
          have hle : (aTl (sJ S (110 + 2 * q)) m 0 a).1 ≤ 0 + m := (aTl_ok (f := sJ S (110 + 2 * q)) m 0 a ha.1).2.2.2.1
          have hwy := aTl_w (f := sJ S (110 + 2 * q)) m 0 a
          have hRA : aR (aTl (sJ S (110 + 2 * q)) m 0 a).2.2 = aR a := hsA.R
          obtain ⟨hqA, hwA, hEA⟩ := rowT_in hgA.1
          have hwA6 : aW (aTl (sJ S (110 + 2 * q)) m 0 a).2.2 < 625 := by have := p5_6 hgA.1.R.2; omega
          rw [hRA] at hEA hqA
          have hqA24 := Nat.lt_of_lt_of_le hqA (kFc_le (aR a))
          refine x_istore 58 [some (.ref 50), some (.int (nI q)), some (.int x), some (.ref (109 + 2 * q)), some (.int (nI ((aTl (sJ S (110 + 2 * q)) m 0 a).1)))] 4 (ab_dd tk_s_judge 30 rfl) rfl (by decide) rfl ?_
          refine x_iload_n 59 2 (ab_dd tk_s_judge 31 rfl) rfl rfl rfl ?_
          by_cases hT59 : (0 : Int) ≤ Int32.toInt x ∧ Int32.toInt x ≤ (2 : Int)
          · have hc59 : Int32.toInt x = (0 : Int) ∨ Int32.toInt x = (1 : Int) ∨ Int32.toInt x = (2 : Int) := by omega
            rcases hc59 with hc59 | hc59 | hc59
            · refine x_tableIn 84 (ab_dd tk_s_judge 32 rfl) (by omega) (by omega) (by rw [hc59]; rfl) (by decide) ?_
              refine x_iload 86 4 (ab_dd tk_s_judge 33 rfl) rfl rfl ?_
              refine x_aload_n 87 3 (ab_dd tk_s_judge 34 rfl) rfl rfl rfl ?_
              refine t_getI 90 (ab_dd tk_s_judge 35 rfl) rfl F_s_224 (by omega) (Nat.lt_of_lt_of_le (show (109 + 2 * q) < 120 by omega) hx2.1) (x_109 hx2 (by omega)) rfl (x_topn m hm2 ?_)
              refine xn_icmp_ge 93 98 (ab_dd tk_s_judge 36 rfl) rfl (by decide) (by omega) (by omega) (fun h90 => ?_) (fun h90 => ?_)
              · refine x_iconst 99 (-1) (ab_dd tk_s_judge 39 rfl) rfl (by decide) ?_
                have ex : x = 0 := of_toInt (hc59.trans (by decide))
                have eA : aJu a (sJ S (110 + 2 * q)) m x = -1 := by
                  unfold aJu
                  rw [if_pos ex, if_pos (hwy.1.mpr (by omega))]
                exact x_iret (ab_dd tk_s_judge 40 rfl) (Or.inr (Or.inr ⟨⟨hdd, Int32.not_lt.mp h11, h16⟩, m, hm40, hm, ⟨by rw [eA], S2, b, st, s22, rfl, hF2, hG2, hB2.up (by omega), hn2⟩⟩))
              · refine x_iload 95 4 (ab_dd tk_s_judge 37 rfl) rfl rfl ?_
                refine x_goto 99 (ab_dd tk_s_judge 38 rfl) (by decide) ?_
                have ex : x = 0 := of_toInt (hc59.trans (by decide))
                have eA : aJu a (sJ S (110 + 2 * q)) m x = nI (aTl (sJ S (110 + 2 * q)) m 0 a).1 := by
                  unfold aJu
                  rw [if_pos ex, if_neg (fun z => by have := hwy.1.mp z; omega)]
                exact x_iret (ab_dd tk_s_judge 40 rfl) (Or.inr (Or.inr ⟨⟨hdd, Int32.not_lt.mp h11, h16⟩, m, hm40, hm, ⟨by rw [eA], S2, b, st, s22, rfl, hF2, hG2, hB2.up (by omega), hn2⟩⟩))
            · refine x_tableIn 100 (ab_dd tk_s_judge 32 rfl) (by omega) (by omega) (by rw [hc59]; rfl) (by decide) ?_
              refine x_iload 102 4 (ab_dd tk_s_judge 41 rfl) rfl rfl ?_
              refine x_aload_n 103 3 (ab_dd tk_s_judge 42 rfl) rfl rfl rfl ?_
              refine t_getI 106 (ab_dd tk_s_judge 43 rfl) rfl F_s_224 (by omega) (Nat.lt_of_lt_of_le (show (109 + 2 * q) < 120 by omega) hx2.1) (x_109 hx2 (by omega)) rfl (x_topn m hm2 ?_)
              refine xn_icmp_ge 109 130 (ab_dd tk_s_judge 44 rfl) rfl (by decide) (by omega) (by omega) (fun h106 => ?_) (fun h106 => ?_)
              · refine x_iconst 131 0 (ab_dd tk_s_judge 55 rfl) rfl (by decide) (x_topn 0 rfl ?_)
                have ex : x = 1 := of_toInt (hc59.trans (by decide))
                have eA : aJu a (sJ S (110 + 2 * q)) m x = nI 0 := by
                  unfold aJu
                  rw [if_neg (by rw [ex]; decide), if_pos ex, hwy.1.mpr (by omega)]
                exact x_iret (ab_dd tk_s_judge 56 rfl) (Or.inr (Or.inr ⟨⟨hdd, Int32.not_lt.mp h11, h16⟩, m, hm40, hm, ⟨by rw [eA], S2, b, st, s22, rfl, hF2, hG2, hB2.up (by omega), hn2⟩⟩))
              · refine x_aload_n 110 0 (ab_dd tk_s_judge 45 rfl) rfl rfl rfl ?_
                refine x_aload_n 111 0 (ab_dd tk_s_judge 46 rfl) rfl rfl rfl ?_
                refine t_getP 114 94 (ab_dd tk_s_judge 47 rfl) rfl F_s_81 (by decide) (Nat.lt_of_lt_of_le (by decide) hx2.1) (hx2.2.1 0 (by decide)) rfl (hx2.2.2 (50, 13, 94) (by decide)) ?_
                refine x_aload_n 115 0 (ab_dd tk_s_judge 48 rfl) rfl rfl rfl ?_
                refine t_getP 118 56 (ab_dd tk_s_judge 49 rfl) rfl F_s_31 (by decide) (Nat.lt_of_lt_of_le (by decide) hx2.1) (hx2.2.1 0 (by decide)) rfl (hx2.2.2 (50, 4, 56) (by decide)) ?_
                refine x_aload_n 119 3 (ab_dd tk_s_judge 50 rfl) rfl rfl rfl ?_
                refine x_iload 121 4 (ab_dd tk_s_judge 51 rfl) rfl rfl ?_
                refine t_callV 124 M_ty_numberAt 0 1 [_] (ab_dd tk_s_judge 52 rfl) rfl (by first | decide | omega) K_ty_numberAt V_ty_numberAt.1 V_ty_numberAt.2 L_s_225 rfl (Nat.le_of_ble_eq_true rfl) (by omega) (Nat.lt_of_lt_of_le (show (109 + 2 * q) < 120 by omega) hx2.1) (x_109 hx2 (by omega)) rfl (c_ty_numberAt hx2 (by omega) (aTl (sJ S (110 + 2 * q)) m 0 a).1 (by omega)) (fun v1 w1 h1 => ?_)
                obtain ⟨rfl, rfl⟩ := h1
                refine t_callV 127 M_s_act 5 3 [_, _, _] (ab_dd tk_s_judge 53 rfl) rfl (by first | decide | omega) K_s_act V_s_act.1 V_s_act.2 L_s_198 rfl (Nat.le_of_ble_eq_true rfl) (by decide) (Nat.lt_of_lt_of_le (by decide) hx2.1) (hx2.2.1 0 (by decide)) rfl (b_s_actT hB2 hgA hsA ht2 (by omega) (sJ S2 (110 + 2 * q) (aTl (sJ S (110 + 2 * q)) m 0 a).1)) (fun v1 w1 h1 => ?_)
                obtain ⟨rfl, S3, s23, rfl, hE3, hB3, ht3⟩ := h1
                have hx3 : xSh S3 := hB3.1
                have hF3 : fAs im bh S2 S3 := fAs.of (gF.sE hE3) (Nat.lt_of_lt_of_le (by decide) hx2.1) (fun y _ z => by simp only [List.mem_cons, List.not_mem_nil, or_false] at z; omega) (by omega)
                rw [eJ, ← hwy.2 (by omega)]
                refine x_goto 131 (ab_dd tk_s_judge 54 rfl) (by decide) ?_
                have ex : x = 1 := of_toInt (hc59.trans (by decide))
                have eA : aJu a (sJ S (110 + 2 * q)) m x = nI (aTl (sJ S (110 + 2 * q)) m 0 a).2.1 := by
                  unfold aJu
                  rw [if_neg (by rw [ex]; decide), if_pos ex]
                exact x_iret (ab_dd tk_s_judge 56 rfl) (Or.inr (Or.inr ⟨⟨hdd, Int32.not_lt.mp h11, h16⟩, m, hm40, hm, ⟨by rw [eA], S3, b, st, s23, rfl, hF2.tr hF3, hG2.tr (gA.sE hE3), hB3.up (by omega), hn2.eq hE3 (by simp only [List.mem_cons, List.not_mem_nil, or_false, not_or]; omega)⟩⟩))
            · refine x_tableIn 132 (ab_dd tk_s_judge 32 rfl) (by omega) (by omega) (by rw [hc59]; rfl) (by decide) ?_
              refine x_aload_n 133 0 (ab_dd tk_s_judge 57 rfl) rfl rfl rfl ?_
              refine t_getP 136 56 (ab_dd tk_s_judge 58 rfl) rfl F_s_31 (by decide) (Nat.lt_of_lt_of_le (by decide) hx2.1) (hx2.2.1 0 (by decide)) rfl (hx2.2.2 (50, 4, 56) (by decide)) ?_
              refine t_getI 139 (ab_dd tk_s_judge 59 rfl) rfl F_s_145 (by decide) (Nat.lt_of_lt_of_le (by decide) hx2.1) (hx2.2.1 6 (by decide)) rfl (x_topn (aW (aTl (sJ S (110 + 2 * q)) m 0 a).2.2) ht2.2.1 ?_)
              refine x_aload_n 140 0 (ab_dd tk_s_judge 60 rfl) rfl rfl rfl ?_
              refine t_getP 143 c (ab_dd tk_s_judge 61 rfl) rfl F_s_20 (by decide) (Nat.lt_of_lt_of_le (by decide) hx2.1) (hx2.2.1 0 (by decide)) rfl hc2 ?_
              refine t_getI 146 (ab_dd tk_s_judge 62 rfl) rfl F_s_177 hk2.1 (Nat.lt_of_le_of_lt (Nat.le_add_right c 2) hk2.2.1) hk2.2.2.1 rfl (x_topn (aR a) c21 ?_)
              refine x_callS 149 M_s_sumOf 1 2 [_, _] (ab_dd tk_s_judge 63 rfl) rfl (by first | decide | omega) K_s_sumOf T_s_sumOf L_s_229 rfl (Nat.le_of_ble_eq_true rfl) (c_s_sumOf (aW (aTl (sJ S (110 + 2 * q)) m 0 a).2.2) (aR a) hwA6 hR) (fun v1 w1 h1 => ?_)
              obtain ⟨rfl, rfl⟩ := h1
              have ex : x = 2 := of_toInt (hc59.trans (by decide))
              have eA : aJu a (sJ S (110 + 2 * q)) m x = nI (mSu (aW (aTl (sJ S (110 + 2 * q)) m 0 a).2.2) (aR a)) := by
                unfold aJu
                rw [if_neg (by rw [ex]; decide), if_neg (by rw [ex]; decide), if_pos ex, hEA, cSt_su hwA6]
              exact x_iret (ab_dd tk_s_judge 64 rfl) (Or.inr (Or.inr ⟨⟨hdd, Int32.not_lt.mp h11, h16⟩, m, hm40, hm, ⟨by rw [eA], S2, b, st, s22, rfl, hF2, hG2, hB2.up (by omega), hn2⟩⟩))
          · refine x_tableOut 150 (ab_dd tk_s_judge 32 rfl) (by omega) (by decide) ?_
            refine x_aload_n 151 0 (ab_dd tk_s_judge 65 rfl) rfl rfl rfl ?_
            refine t_getP 154 c (ab_dd tk_s_judge 66 rfl) rfl F_s_20 (by decide) (Nat.lt_of_lt_of_le (by decide) hx2.1) (hx2.2.1 0 (by decide)) rfl hc2 ?_
            refine t_getI 157 (ab_dd tk_s_judge 67 rfl) rfl F_s_177 hk2.1 (Nat.lt_of_le_of_lt (Nat.le_add_right c 2) hk2.2.1) hk2.2.2.1 rfl (x_topn (aR a) c21 ?_)
            refine xn_if_le 160 178 (ab_dd tk_s_judge 68 rfl) rfl (by decide) (by omega) (fun h157 => ?_) (fun h157 => ?_)
            · refine x_iconst 179 (-1) (ab_dd tk_s_judge 77 rfl) rfl (by decide) ?_
              have eA : aJu a (sJ S (110 + 2 * q)) m x = -1 := by
                unfold aJu
                rw [if_neg (fun z => hT59 (by rw [z]; decide)), if_neg (fun z => hT59 (by rw [z]; decide)), if_neg (fun z => hT59 (by rw [z]; decide)), hEA]
                rw [if_neg (by omega)]
              exact x_iret (ab_dd tk_s_judge 78 rfl) (Or.inr (Or.inr ⟨⟨hdd, Int32.not_lt.mp h11, h16⟩, m, hm40, hm, ⟨by rw [eA], S2, b, st, s22, rfl, hF2, hG2, hB2.up (by omega), hn2⟩⟩))
            · refine x_aload_n 161 0 (ab_dd tk_s_judge 69 rfl) rfl rfl rfl ?_
              refine t_getP 164 78 (ab_dd tk_s_judge 70 rfl) rfl F_s_68 (by decide) (Nat.lt_of_lt_of_le (by decide) hx2.1) (hx2.2.1 0 (by decide)) rfl (hx2.2.2 (50, 11, 78) (by decide)) ?_
              refine x_aload_n 165 0 (ab_dd tk_s_judge 71 rfl) rfl rfl rfl ?_
              refine t_getP 168 56 (ab_dd tk_s_judge 72 rfl) rfl F_s_31 (by decide) (Nat.lt_of_lt_of_le (by decide) hx2.1) (hx2.2.1 0 (by decide)) rfl (hx2.2.2 (50, 4, 56) (by decide)) ?_
              refine t_getI 171 (ab_dd tk_s_judge 73 rfl) rfl F_s_151 (by decide) (Nat.lt_of_lt_of_le (by decide) hx2.1) (hx2.2.1 6 (by decide)) rfl (x_topn (aQ (aTl (sJ S (110 + 2 * q)) m 0 a).2.2) ht2.2.2.1 ?_)
              refine x_iconst 172 0 (ab_dd tk_s_judge 74 rfl) rfl (by decide) (x_topn 0 rfl ?_)
              refine t_callV 175 M_se_riderIn 0 2 [_, _] (ab_dd tk_s_judge 75 rfl) rfl (by first | decide | omega) K_se_riderIn V_se_riderIn.1 V_se_riderIn.2 L_s_160 rfl (Nat.le_of_ble_eq_true rfl) (by decide) (Nat.lt_of_lt_of_le (by decide) hx2.1) (hx2.2.1 28 (by decide)) rfl (c_se_riderIn hx2 hse2 (aQ (aTl (sJ S (110 + 2 * q)) m 0 a).2.2) 0 hqA24 (by decide)) (fun v1 w1 h1 => ?_)
              obtain ⟨rfl, rfl⟩ := h1
              refine x_goto 179 (ab_dd tk_s_judge 76 rfl) (by decide) ?_
              have eA : aJu a (sJ S (110 + 2 * q)) m x = nI (qRi (aQ (aTl (sJ S (110 + 2 * q)) m 0 a).2.2) 0) := by
                have h0R : 0 < aR a := by omega
                unfold aJu
                rw [if_neg (fun z => hT59 (by rw [z]; decide)), if_neg (fun z => hT59 (by rw [z]; decide)), if_neg (fun z => hT59 (by rw [z]; decide)), hEA]
                rw [cSt_sit hR hqA hwA6 h0R, if_pos ((qB1_ok hR hqA).2.2.2.2.1 0 h0R).2.1]
              exact x_iret (ab_dd tk_s_judge 78 rfl) (Or.inr (Or.inr ⟨⟨hdd, Int32.not_lt.mp h11, h16⟩, m, hm40, hm, ⟨by rw [eA], S2, b, st, s22, rfl, hF2, hG2, hB2.up (by omega), hn2⟩⟩))
        · refine x_bipush 21 (-2) (ab_dd tk_s_judge 11 rfl) rfl (by decide) ?_
          exact x_iret (ab_dd tk_s_judge 12 rfl) (Or.inl ⟨fun z => h16 z.2.2, ⟨rfl, S, b, st, st2, rfl, fAs.rf, gA.rf, h.up (by omega), ht⟩⟩)
  · refine x_aload_n 1 0 (ab_dd tk_s_judge 0 rfl) rfl rfl rfl ?_
    refine x_iload_n 2 1 (ab_dd tk_s_judge 1 rfl) rfl rfl rfl ?_
    refine t_callV 5 M_s_trayAt 0 1 [_] (ab_dd tk_s_judge 2 rfl) rfl (by first | decide | omega) K_s_trayAt V_s_trayAt.1 V_s_trayAt.2 L_s_209 rfl (Nat.le_of_ble_eq_true rfl) (by decide) (Nat.lt_of_lt_of_le (by decide) hx.1) (hx.2.1 0 (by decide)) rfl (c_s_trayAtN hx e hdd) (fun v1 w1 h1 => ?_)
    obtain ⟨rfl, rfl⟩ := h1
    refine x_astore_nN 6 [some (.ref 50), some (.int e), some (.int x), some (.null), none] 3 (ab_dd tk_s_judge 3 rfl) rfl rfl (by decide) rfl ?_
    refine x_aload_nN 7 3 (ab_dd tk_s_judge 4 rfl) rfl rfl rfl ?_
    refine x_ifnull_t 19 (ab_dd tk_s_judge 5 rfl) (by decide) ?_
    refine x_bipush 21 (-2) (ab_dd tk_s_judge 11 rfl) rfl (by decide) ?_
    exact x_iret (ab_dd tk_s_judge 12 rfl) (Or.inl ⟨fun z => hdd z.1, ⟨rfl, S, b, st, st2, rfl, fAs.rf, gA.rf, h.up (by omega), ht⟩⟩)
