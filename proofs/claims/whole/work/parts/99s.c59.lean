/-! ===== perform ===== -/
def tb_s_perform : List (Nat × Instr × Nat) := [(0, .aload_n 0, 1), (1, .iload_n 1, 1), (2, .invokevirtual 209, 3), (5, .astore_n 2, 1), (6, .aload_n 2, 1), (7, .ifnonnull 6, 3), (10, .bipush (-2), 2), (12, .ireturn, 1), (13, .aload_n 2, 1), (14, .invokevirtual 213, 3), (17, .ifCond .eq 6, 3), (20, .bipush (-6), 2), (22, .ireturn, 1), (23, .aload_n 0, 1), (24, .getfield 31, 3), (27, .aload_n 0, 1), (28, .getfield 27, 3), (31, .invokevirtual 217, 3), (34, .aload_n 0, 1), (35, .aload_n 0, 1), (36, .getfield 77, 3), (39, .aload_n 0, 1), (40, .getfield 27, 3), (43, .aload_n 2, 1), (44, .invokevirtual 220, 3), (47, .istore_n 3, 1), (48, .iload_n 3, 1), (49, .ifCond .le 14, 3), (52, .aload_n 0, 1), (53, .getfield 37, 3), (56, .aload_n 0, 1), (57, .getfield 31, 3), (60, .invokevirtual 194, 3), (63, .iload_n 3, 1), (64, .ireturn, 1)]
theorem tk_s_perform : ∀ q ∈ tb_s_perform, decode M_s_perform.2.1 q.1 = .ok q.2 := by decide +kernel
theorem p_s_perform {G : ab_G} {S : ab_S} {im : Nat → Prop} {a b : Nat → Int32} {c bh nb st st2 u : Nat} (h : kBd S im a c b bh nb st st2 u) (ht : sdE S 55 (rowT a)) (hu : u + 64 < 2 ^ 20) {n s : Nat} {f : Nat → sT} (hp : paI S n s f) (hT : ∀ t, t < 4 → sI S (109 + 2 * t) 2 = -1 ∨ ∃ m, m ≤ 40 ∧ sI S (109 + 2 * t) 2 = nI m) (e : Int32) : ab_C G 7 M_s_perform [.ref 50, .int e] (sw S) (fun v w' => (¬ (0 ≤ e ∧ e ≤ 3) ∧ pDe S im a c bh nb st2 u n s f (some (.int (-2))) a False v w') ∨ ((0 ≤ e ∧ e ≤ 3) ∧ sI S (109 + 2 * cN e) 2 = -1 ∧ pDe S im a c bh nb st2 u n s f (some (.int (-6))) a False v w') ∨ ((0 ≤ e ∧ e ≤ 3) ∧ ∃ m, m ≤ 40 ∧ sI S (109 + 2 * (cN e)) 2 = nI m ∧ pDe S im a c bh nb st2 u n s f (some (.int (nI (aTl (sJ S (110 + 2 * (cN e))) m 0 a).1))) (aTl (sJ S (110 + 2 * (cN e))) m 0 a).2.2 (0 < (aTl (sJ S (110 + 2 * (cN e))) m 0 a).1) v w')) := by
  refine x_enter [some (.ref 50), some (.int e), none, none] (by decide) (Nat.le_of_ble_eq_true rfl) rfl (fun v w' h => by rcases h with ⟨-, rfl, -⟩ | ⟨-, -, rfl, -⟩ | ⟨-, m, -, -, rfl, -⟩ <;> rfl) ?_
  have hbh := h.bh.1
  have h0 := h
  obtain ⟨hx, hse, kc, ⟨him, hil, h145⟩, ha, hc, ⟨hb1, hb2, hcl, hnb⟩, hcl9, -, hid, -, hu1, hu2⟩ := h0
  have h40 : sI S 55 3 = a 40 := ht.2.2.2.1.trans ha.1.m40.1.symm
  have hca := hcl.1.sta hb2.sy
  obtain ⟨hk, c1, -⟩ := hca
  have hR := ha.1.R.2
  have h50 : 50 ≤ sn S := by omega
  have hw6 : aW a < 625 := by have := (rowT_in ha.1).2.1; have := p5_6 hR; omega
  have hsl := seaC_lt ha.1
  by_cases hdd : 0 ≤ e ∧ e ≤ 3
  · obtain ⟨q, hq, ekq, enq⟩ := in_get (n := 3) (by decide) hdd
    rw [show some (Value.int e) = some (Value.int (nI q)) by rw [ekq], enq]
    rcases hT q (by omega) with hm | ⟨m, hm40, hm⟩
    · refine x_aload_n 1 0 (ab_dd tk_s_perform 0 rfl) rfl rfl rfl ?_
      refine x_iload_n 2 1 (ab_dd tk_s_perform 1 rfl) rfl rfl rfl ?_
      refine t_callV 5 M_s_trayAt 0 1 [_] (ab_dd tk_s_perform 2 rfl) rfl (by first | decide | omega) K_s_trayAt V_s_trayAt.1 V_s_trayAt.2 L_s_209 rfl (Nat.le_of_ble_eq_true rfl) (by decide) (Nat.lt_of_lt_of_le (by decide) hx.1) (hx.2.1 0 (by decide)) rfl (c_s_trayAt hx q (by omega)) (fun v1 w1 h1 => ?_)
      obtain ⟨rfl, rfl⟩ := h1
      refine x_astore_n 6 [some (.ref 50), some (.int (nI q)), some (.ref (109 + 2 * q)), none] 2 (ab_dd tk_s_perform 3 rfl) rfl rfl (by decide) rfl ?_
      refine x_aload_n 7 2 (ab_dd tk_s_perform 4 rfl) rfl rfl rfl ?_
      refine x_ifnonnull_t 13 (ab_dd tk_s_perform 5 rfl) (by decide) ?_
      refine x_aload_n 14 2 (ab_dd tk_s_perform 8 rfl) rfl rfl rfl ?_
      refine t_callV 17 M_ty_isMissing 0 0 [] (ab_dd tk_s_perform 9 rfl) rfl (by first | decide | omega) K_ty_isMissing V_ty_isMissing.1 V_ty_isMissing.2 L_s_213 rfl (Nat.le_of_ble_eq_true rfl) (by omega) (Nat.lt_of_lt_of_le (show (109 + 2 * q) < 120 by omega) hx.1) (x_109 hx (by omega)) rfl (c_ty_isMissing hx (by omega) (-1) hm) (fun v1 w1 h1 => ?_)
      obtain ⟨rfl, rfl⟩ := h1
      refine x_if_eq_f 20 (ab_dd tk_s_perform 10 rfl) rfl 23 (by decide) (by decide) ?_
      refine x_bipush 22 (-6) (ab_dd tk_s_perform 11 rfl) rfl (by decide) ?_
      exact x_iret (ab_dd tk_s_perform 12 rfl) (Or.inr (Or.inl ⟨hdd, hm, ⟨rfl, S, b, st, rfl, sEq.rf, h.up (by omega), ht, fun z => z.elim, fun _ => hp⟩⟩))
    · refine x_aload_n 1 0 (ab_dd tk_s_perform 0 rfl) rfl rfl rfl ?_
      refine x_iload_n 2 1 (ab_dd tk_s_perform 1 rfl) rfl rfl rfl ?_
      refine t_callV 5 M_s_trayAt 0 1 [_] (ab_dd tk_s_perform 2 rfl) rfl (by first | decide | omega) K_s_trayAt V_s_trayAt.1 V_s_trayAt.2 L_s_209 rfl (Nat.le_of_ble_eq_true rfl) (by decide) (Nat.lt_of_lt_of_le (by decide) hx.1) (hx.2.1 0 (by decide)) rfl (c_s_trayAt hx q (by omega)) (fun v1 w1 h1 => ?_)
      obtain ⟨rfl, rfl⟩ := h1
      refine x_astore_n 6 [some (.ref 50), some (.int (nI q)), some (.ref (109 + 2 * q)), none] 2 (ab_dd tk_s_perform 3 rfl) rfl rfl (by decide) rfl ?_
      refine x_aload_n 7 2 (ab_dd tk_s_perform 4 rfl) rfl rfl rfl ?_
      refine x_ifnonnull_t 13 (ab_dd tk_s_perform 5 rfl) (by decide) ?_
      refine x_aload_n 14 2 (ab_dd tk_s_perform 8 rfl) rfl rfl rfl ?_
      refine t_callV 17 M_ty_isMissing 0 0 [] (ab_dd tk_s_perform 9 rfl) rfl (by first | decide | omega) K_ty_isMissing V_ty_isMissing.1 V_ty_isMissing.2 L_s_213 rfl (Nat.le_of_ble_eq_true rfl) (by omega) (Nat.lt_of_lt_of_le (show (109 + 2 * q) < 120 by omega) hx.1) (x_109 hx (by omega)) rfl (c_ty_isMissing hx (by omega) (nI m) hm) (fun v1 w1 h1 => ?_)
      obtain ⟨rfl, rfl⟩ := h1
      refine x_if_eq_t 23 (ab_dd tk_s_perform 10 rfl) (by decide) (if_neg (nI_nn m (by omega))) ?_
      refine x_aload_n 24 0 (ab_dd tk_s_perform 13 rfl) rfl rfl rfl ?_
      refine t_getP 27 56 (ab_dd tk_s_perform 14 rfl) rfl F_s_31 (by decide) (Nat.lt_of_lt_of_le (by decide) hx.1) (hx.2.1 0 (by decide)) rfl (hx.2.2 (50, 4, 56) (by decide)) ?_
      refine x_aload_n 28 0 (ab_dd tk_s_perform 15 rfl) rfl rfl rfl ?_
      refine t_getP 31 55 (ab_dd tk_s_perform 16 rfl) rfl F_s_27 (by decide) (Nat.lt_of_lt_of_le (by decide) hx.1) (hx.2.1 0 (by decide)) rfl (hx.2.2 (50, 3, 55) (by decide)) ?_
      refine t_callV 34 M_sd_copy 0 1 [_] (ab_dd tk_s_perform 17 rfl) rfl (by first | decide | omega) K_sd_copy V_sd_copy.1 V_sd_copy.2 L_s_217 rfl (Nat.le_of_ble_eq_true rfl) (by decide) (Nat.lt_of_lt_of_le (by decide) hx.1) (hx.2.1 6 (by decide)) rfl (c_sd_copy (show sdK S 56 from x_55 hx (by decide)) (show sdK S 55 from x_55 hx (by decide)) (by decide) ht) (fun v1 w1 h1 => ?_)
      obtain ⟨rfl, S1, rfl, hE1, ht1⟩ := h1
      have hB1 := h.se hE1 (fun y hy => by simp only [List.mem_cons, List.not_mem_nil, or_false] at hy; omega)
      have hx1 : xSh S1 := hB1.1
      have hn1 : sdE S1 55 (rowT a) := ht.eq hE1 (by simp only [List.mem_cons, List.not_mem_nil, or_false, not_or]; omega)
      refine x_aload_n 35 0 (ab_dd tk_s_perform 18 rfl) rfl rfl rfl ?_
      refine x_aload_n 36 0 (ab_dd tk_s_perform 19 rfl) rfl rfl rfl ?_
      refine t_getP 39 84 (ab_dd tk_s_perform 20 rfl) rfl F_s_77 (by decide) (Nat.lt_of_lt_of_le (by decide) hx1.1) (hx1.2.1 0 (by decide)) rfl (hx1.2.2 (50, 12, 84) (by decide)) ?_
      refine x_aload_n 40 0 (ab_dd tk_s_perform 21 rfl) rfl rfl rfl ?_
      refine t_getP 43 55 (ab_dd tk_s_perform 22 rfl) rfl F_s_27 (by decide) (Nat.lt_of_lt_of_le (by decide) hx1.1) (hx1.2.1 0 (by decide)) rfl (hx1.2.2 (50, 3, 55) (by decide)) ?_
      refine x_aload_n 44 2 (ab_dd tk_s_perform 23 rfl) rfl rfl rfl ?_
      refine t_callV 47 M_s_actAll 6 3 [_, _, _] (ab_dd tk_s_perform 24 rfl) rfl (by first | decide | omega) K_s_actAll V_s_actAll.1 V_s_actAll.2 L_s_220 rfl (Nat.le_of_ble_eq_true rfl) (by decide) (Nat.lt_of_lt_of_le (by decide) hx1.1) (hx1.2.1 0 (by decide)) rfl (b_s_actAll hB1 hn1 hm40 (by omega) (tq := q) (by omega) ((congrFun (hE1.2.2.1 _ (by simp only [List.mem_cons, List.not_mem_nil, or_false, not_or]; omega)) 2).trans hm) (f := sJ S (110 + 2 * q)) (fun i _ => congrFun (hE1.2.2.2.1 _ (by simp only [List.mem_cons, List.not_mem_nil, or_false, not_or]; omega)) i)) (fun v1 w1 h1 => ?_)
      obtain ⟨rfl, S2, b2, s2, rfl, hE2, hB2, hn2⟩ := h1
      have hx2 : xSh S2 := hB2.1
      have ht2 : sdE S2 56 (rowT a) := ht1.eq hE2 (by simp only [List.mem_cons, List.not_mem_nil, or_false, not_or]; omega)
      have hp2 : paI S2 n s f := (hp.eq hE1 (fun y y1 y2 => (by simp only [List.mem_cons, List.not_mem_nil, or_false, not_or]; omega))).eq hE2 (fun y y1 y2 => (by simp only [List.mem_cons, List.not_mem_nil, or_false, not_or]; omega))
      have hEa : sEq (dL bh) S S2 := (hE1.mono (fun y hy => by simp only [dL, List.mem_cons, List.not_mem_nil, or_false] at hy ⊢; omega)).tr (hE2.mono (fun y hy => by simp only [dL, List.mem_cons, List.not_mem_nil, or_false] at hy ⊢; omega))
      have hle : (aTl (sJ S (110 + 2 * q)) m 0 a).1 ≤ 40 := by have := (aTl_ok (f := sJ S (110 + 2 * q)) m 0 a ha.1).2.2.2.1; omega
      refine x_istore_n 48 [some (.ref 50), some (.int (nI q)), some (.ref (109 + 2 * q)), some (.int (nI ((aTl (sJ S (110 + 2 * q)) m 0 a).1)))] 3 (ab_dd tk_s_perform 25 rfl) rfl rfl (by decide) rfl ?_
      refine x_iload_n 49 3 (ab_dd tk_s_perform 26 rfl) rfl rfl rfl ?_
      refine xn_if_le 52 63 (ab_dd tk_s_perform 27 rfl) rfl (by decide) (by omega) (fun h49 => ?_) (fun h49 => ?_)
      · refine x_iload_n 64 3 (ab_dd tk_s_perform 33 rfl) rfl rfl rfl ?_
        exact x_iret (ab_dd tk_s_perform 34 rfl) (Or.inr (Or.inr ⟨hdd, m, hm40, hm, rfl, S2, b2, s2, rfl, hEa, hB2.up (by omega), hn2, fun z => absurd z (by omega), fun _ => hp2⟩))
      · refine x_aload_n 53 0 (ab_dd tk_s_perform 28 rfl) rfl rfl rfl ?_
        refine t_getP 56 57 (ab_dd tk_s_perform 29 rfl) rfl F_s_37 (by decide) (Nat.lt_of_lt_of_le (by decide) hx2.1) (hx2.2.1 0 (by decide)) rfl (hx2.2.2 (50, 5, 57) (by decide)) ?_
        refine x_aload_n 57 0 (ab_dd tk_s_perform 30 rfl) rfl rfl rfl ?_
        refine t_getP 60 56 (ab_dd tk_s_perform 31 rfl) rfl F_s_31 (by decide) (Nat.lt_of_lt_of_le (by decide) hx2.1) (hx2.2.1 0 (by decide)) rfl (hx2.2.2 (50, 4, 56) (by decide)) ?_
        refine t_callV 63 M_pa_keep 1 1 [_] (ab_dd tk_s_perform 32 rfl) rfl (by first | decide | omega) K_pa_keep V_pa_keep.1 V_pa_keep.2 L_s_194 rfl (Nat.le_of_ble_eq_true rfl) (by decide) (Nat.lt_of_lt_of_le (by decide) hx2.1) (hx2.2.1 7 (by decide)) rfl (c_pa_keep hx2 hp2 (show sdK S2 56 from x_55 hx2 (by decide)) (Or.inl (by decide)) ht2) (fun v1 w1 h1 => ?_)
        obtain ⟨rfl, S3, rfl, hE3, hp3⟩ := h1
        have hB3 := hB2.se hE3 (fun y hy => by simp only [List.mem_cons, List.not_mem_nil, or_false] at hy; omega)
        have hx3 : xSh S3 := hB3.1
        refine x_iload_n 64 3 (ab_dd tk_s_perform 33 rfl) rfl rfl rfl ?_
        exact x_iret (ab_dd tk_s_perform 34 rfl) (Or.inr (Or.inr ⟨hdd, m, hm40, hm, rfl, S3, b2, s2, rfl, hEa.tr (hE3.mono (fun y hy => by simp only [dL, List.mem_cons, List.not_mem_nil, or_false] at hy ⊢; omega)), hB3.up (by omega), hn2.eq hE3 (by simp only [List.mem_cons, List.not_mem_nil, or_false, not_or]; omega), fun _ => hp3, fun z => absurd z (by omega)⟩))
  · refine x_aload_n 1 0 (ab_dd tk_s_perform 0 rfl) rfl rfl rfl ?_
    refine x_iload_n 2 1 (ab_dd tk_s_perform 1 rfl) rfl rfl rfl ?_
    refine t_callV 5 M_s_trayAt 0 1 [_] (ab_dd tk_s_perform 2 rfl) rfl (by first | decide | omega) K_s_trayAt V_s_trayAt.1 V_s_trayAt.2 L_s_209 rfl (Nat.le_of_ble_eq_true rfl) (by decide) (Nat.lt_of_lt_of_le (by decide) hx.1) (hx.2.1 0 (by decide)) rfl (c_s_trayAtN hx e hdd) (fun v1 w1 h1 => ?_)
    obtain ⟨rfl, rfl⟩ := h1
    refine x_astore_nN 6 [some (.ref 50), some (.int e), some (.null), none] 2 (ab_dd tk_s_perform 3 rfl) rfl rfl (by decide) rfl ?_
    refine x_aload_nN 7 2 (ab_dd tk_s_perform 4 rfl) rfl rfl rfl ?_
    refine x_ifnonnull_f 10 (ab_dd tk_s_perform 5 rfl) rfl ?_
    refine x_bipush 12 (-2) (ab_dd tk_s_perform 6 rfl) rfl (by decide) ?_
    exact x_iret (ab_dd tk_s_perform 7 rfl) (Or.inl ⟨hdd, ⟨rfl, S, b, st, rfl, sEq.rf, h.up (by omega), ht, fun z => z.elim, fun _ => hp⟩⟩)
