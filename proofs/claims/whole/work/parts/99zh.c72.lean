/-! ===== felt ===== -/
/-- why a tray of warmths felt is refused, or 0 -/
def cNf (S : ab_S) (R : Nat) (t r : Int32) : Int32 := if (0 ≤ t ∧ t ≤ 3) ∧ (0 ≤ r ∧ cN r < R) then (if sI S (109 + 2 * cN t) 2 = -1 then -6 else if 1 ≤ cN (sI S (109 + 2 * cN t) 2) ∧ cN (sI S (109 + 2 * cN t) 2) ≤ 10 then (if ∀ i, i < cN (sI S (109 + 2 * cN t) 2) → 0 ≤ sJ S (110 + 2 * cN t) i ∧ sJ S (110 + 2 * cN t) i ≤ 4 then 0 else -3) else -4) else -2
theorem cNf_0 {S : ab_S} {R : Nat} {t r : Int32} (h : cNf S R t r = 0) : ((0 ≤ t ∧ t ≤ 3) ∧ (0 ≤ r ∧ cN r < R)) ∧ ¬ sI S (109 + 2 * cN t) 2 = -1 := by
  unfold cNf at h
  by_cases h1 : (0 ≤ t ∧ t ≤ 3) ∧ (0 ≤ r ∧ cN r < R)
  · rw [if_pos h1] at h
    by_cases h2 : sI S (109 + 2 * cN t) 2 = -1
    · rw [if_pos h2] at h; exact absurd h (by decide)
    · exact ⟨h1, h2⟩
  · rw [if_neg h1] at h; exact absurd h (by decide)
theorem sea_sn {a : Nat → Int32} (h : aOk a) {p s : Nat} (hp : p < 4) (hs : s < 4) : c4 (fun i => if i = p then s else d4 (seaC a) i) = seaC (aSn a p s) := c4_cg (fun i hi => by
  by_cases e : i = p
  · rw [if_pos e, e]
    show s = cN (up1 a (28 + p) (nI s) (28 + p))
    rw [up1_s, cN_nI (by omega)]
  · rw [if_neg e, seaC_d h hi]
    show _ = cN (up1 a (28 + p) (nI s) (28 + i))
    rw [up1_o (by omega)])
theorem sta.sn {a : Nat → Int32} {p s : Nat} (hp : p < 4) : sta a (aSn a p s) := sta.up (by omega) (by omega)
theorem row_of {a b : Nat → Int32} (hR : aR b = aR a) (hE : aE b = aE a) : aW b = aW a ∧ aQ b = aQ a := by
  unfold aW aQ
  rw [hR, hE]
  exact ⟨rfl, rfl⟩
def tb_s_refusedFelt : List (Nat × Instr × Nat) := [(0, .aload_n 0, 1), (1, .iload_n 1, 1), (2, .invokevirtual 209, 3), (5, .astore_n 3, 1), (6, .aload_n 3, 1), (7, .ifnull 12, 3), (10, .aload_n 0, 1), (11, .iload_n 2, 1), (12, .i2l, 1), (13, .invokevirtual 130, 3), (16, .ifCond .ne 6, 3), (19, .bipush (-2), 2), (21, .ireturn, 1), (22, .aload_n 3, 1), (23, .invokevirtual 213, 3), (26, .ifCond .eq 6, 3), (29, .bipush (-6), 2), (31, .ireturn, 1), (32, .aload_n 3, 1), (33, .getfield 224, 3), (36, .iconst 1, 1), (37, .if_icmp .lt 12, 3), (40, .aload_n 3, 1), (41, .getfield 224, 3), (44, .bipush 10, 2), (46, .if_icmp .le 6, 3), (49, .bipush (-4), 2), (51, .ireturn, 1), (52, .iconst 0, 1), (53, .istore 4, 2), (55, .iload 4, 2), (57, .aload_n 3, 1), (58, .getfield 224, 3), (61, .if_icmp .ge 24, 3), (64, .aload_n 3, 1), (65, .iload 4, 2), (67, .invokevirtual 225, 3), (70, .invokestatic 283, 3), (73, .ifCond .ne 6, 3), (76, .bipush (-3), 2), (78, .ireturn, 1), (79, .iinc 4 1, 3), (82, .goto (-27), 3), (85, .iconst 0, 1), (86, .ireturn, 1)]
theorem tk_s_refusedFelt : ∀ q ∈ tb_s_refusedFelt, decode M_s_refusedFelt.2.1 q.1 = .ok q.2 := by decide +kernel
theorem b_s_refusedFelt {G : ab_G} {S : ab_S} {im : Nat → Prop} {a b : Nat → Int32} {c bh nb st st2 u : Nat} (h : kBd S im a c b bh nb st st2 u) (ht : sdE S 55 (rowT a)) (hT : ∀ t, t < 4 → sI S (109 + 2 * t) 2 = -1 ∨ ∃ m, m ≤ 40 ∧ sI S (109 + 2 * t) 2 = nI m) (e p : Int32) : ab_C G 1 M_s_refusedFelt [.ref 50, .int e, .int p] (sw S) (fun v w' => v = some (.int (cNf S (aR a) e p)) ∧ w' = sw S) := by
  refine x_enter [some (.ref 50), some (.int e), some (.int p), none, none] (by decide) (Nat.le_of_ble_eq_true rfl) rfl (fun v w' h => by obtain ⟨rfl, rfl⟩ := h; rfl) ?_
  have hbh := h.bh.1
  have h0 := h
  obtain ⟨hx, hse, kc, ⟨him, hil, h145⟩, ha, hc, ⟨hb1, hb2, hcl, hnb⟩, hcl9, -, hid, -, hu1, hu2⟩ := h0
  have h40 : sI S 55 3 = a 40 := ht.2.2.2.1.trans ha.1.m40.1.symm
  have hca := hcl.1.sta hb2.sy
  obtain ⟨hk, c1, -⟩ := hca
  have hR := ha.1.R.2
  have h50 : 50 ≤ sn S := by omega
  obtain ⟨hq0, hw0, hE0⟩ := rowT_in ha.1
  have hw6 : aW a < 625 := by have := p5_6 hR; omega
  have hq24 := Nat.lt_of_lt_of_le hq0 (kFc_le (aR a))
  by_cases hdd : 0 ≤ e ∧ e ≤ 3
  · obtain ⟨q, hq, ekq, enq⟩ := in_get (n := 3) (by decide) hdd
    rw [show some (Value.int e) = some (Value.int (nI q)) by rw [ekq]]
    rcases hT q (by omega) with hm | ⟨m, hm40, hm⟩
    · refine x_aload_n 1 0 (ab_dd tk_s_refusedFelt 0 rfl) rfl rfl rfl ?_
      refine x_iload_n 2 1 (ab_dd tk_s_refusedFelt 1 rfl) rfl rfl rfl ?_
      refine t_callV 5 M_s_trayAt 0 1 [_] (ab_dd tk_s_refusedFelt 2 rfl) rfl (by first | decide | omega) K_s_trayAt V_s_trayAt.1 V_s_trayAt.2 L_s_209 rfl (Nat.le_of_ble_eq_true rfl) (by decide) (Nat.lt_of_lt_of_le (by decide) hx.1) (hx.2.1 0 (by decide)) rfl (c_s_trayAt hx q (by omega)) (fun v1 w1 h1 => ?_)
      obtain ⟨rfl, rfl⟩ := h1
      refine x_astore_n 6 [some (.ref 50), some (.int (nI q)), some (.int p), some (.ref (109 + 2 * q)), none] 3 (ab_dd tk_s_refusedFelt 3 rfl) rfl rfl (by decide) rfl ?_
      refine x_aload_n 7 3 (ab_dd tk_s_refusedFelt 4 rfl) rfl rfl rfl ?_
      refine x_ifnull_f 10 (ab_dd tk_s_refusedFelt 5 rfl) rfl ?_
      refine x_aload_n 11 0 (ab_dd tk_s_refusedFelt 6 rfl) rfl rfl rfl ?_
      refine x_iload_n 12 2 (ab_dd tk_s_refusedFelt 7 rfl) rfl rfl rfl ?_
      refine x_i2l 13 (ab_dd tk_s_refusedFelt 8 rfl) rfl ?_
      refine t_callV 16 M_s_isRider 0 1 [_] (ab_dd tk_s_refusedFelt 9 rfl) rfl (by first | decide | omega) K_s_isRider V_s_isRider.1 V_s_isRider.2 L_s_130 rfl (Nat.le_of_ble_eq_true rfl) (by decide) (Nat.lt_of_lt_of_le (by decide) hx.1) (hx.2.1 0 (by decide)) rfl (cx_isRider (by exact hx) hc hk hR c1 p) (fun v1 w1 h1 => ?_)
      obtain ⟨rfl, rfl⟩ := h1
      refine xb_if_ne 19 22 (ab_dd tk_s_refusedFelt 10 rfl) rfl (by decide) (fun h16 => ?_) (fun h16 => ?_)
      · refine x_aload_n 23 3 (ab_dd tk_s_refusedFelt 13 rfl) rfl rfl rfl ?_
        refine t_callV 26 M_ty_isMissing 0 0 [] (ab_dd tk_s_refusedFelt 14 rfl) rfl (by first | decide | omega) K_ty_isMissing V_ty_isMissing.1 V_ty_isMissing.2 L_s_213 rfl (Nat.le_of_ble_eq_true rfl) (by omega) (Nat.lt_of_lt_of_le (show (109 + 2 * q) < 120 by omega) hx.1) (x_109 hx (by omega)) rfl (c_ty_isMissing hx (by omega) (-1) hm) (fun v1 w1 h1 => ?_)
        obtain ⟨rfl, rfl⟩ := h1
        refine x_if_eq_f 29 (ab_dd tk_s_refusedFelt 15 rfl) rfl 32 (by decide) (by decide) ?_
        refine x_bipush 31 (-6) (ab_dd tk_s_refusedFelt 16 rfl) rfl (by decide) ?_
        exact x_iret (ab_dd tk_s_refusedFelt 17 rfl) ⟨rI (by unfold cNf; rw [if_pos ⟨hdd, h16⟩, enq, if_pos hm]), rfl⟩
      · refine x_bipush 21 (-2) (ab_dd tk_s_refusedFelt 11 rfl) rfl (by decide) ?_
        exact x_iret (ab_dd tk_s_refusedFelt 12 rfl) ⟨rI (if_neg (fun z => h16 z.2)).symm, rfl⟩
    · refine x_aload_n 1 0 (ab_dd tk_s_refusedFelt 0 rfl) rfl rfl rfl ?_
      refine x_iload_n 2 1 (ab_dd tk_s_refusedFelt 1 rfl) rfl rfl rfl ?_
      refine t_callV 5 M_s_trayAt 0 1 [_] (ab_dd tk_s_refusedFelt 2 rfl) rfl (by first | decide | omega) K_s_trayAt V_s_trayAt.1 V_s_trayAt.2 L_s_209 rfl (Nat.le_of_ble_eq_true rfl) (by decide) (Nat.lt_of_lt_of_le (by decide) hx.1) (hx.2.1 0 (by decide)) rfl (c_s_trayAt hx q (by omega)) (fun v1 w1 h1 => ?_)
      obtain ⟨rfl, rfl⟩ := h1
      refine x_astore_n 6 [some (.ref 50), some (.int (nI q)), some (.int p), some (.ref (109 + 2 * q)), none] 3 (ab_dd tk_s_refusedFelt 3 rfl) rfl rfl (by decide) rfl ?_
      refine x_aload_n 7 3 (ab_dd tk_s_refusedFelt 4 rfl) rfl rfl rfl ?_
      refine x_ifnull_f 10 (ab_dd tk_s_refusedFelt 5 rfl) rfl ?_
      refine x_aload_n 11 0 (ab_dd tk_s_refusedFelt 6 rfl) rfl rfl rfl ?_
      refine x_iload_n 12 2 (ab_dd tk_s_refusedFelt 7 rfl) rfl rfl rfl ?_
      refine x_i2l 13 (ab_dd tk_s_refusedFelt 8 rfl) rfl ?_
      refine t_callV 16 M_s_isRider 0 1 [_] (ab_dd tk_s_refusedFelt 9 rfl) rfl (by first | decide | omega) K_s_isRider V_s_isRider.1 V_s_isRider.2 L_s_130 rfl (Nat.le_of_ble_eq_true rfl) (by decide) (Nat.lt_of_lt_of_le (by decide) hx.1) (hx.2.1 0 (by decide)) rfl (cx_isRider (by exact hx) hc hk hR c1 p) (fun v1 w1 h1 => ?_)
      obtain ⟨rfl, rfl⟩ := h1
      refine xb_if_ne 19 22 (ab_dd tk_s_refusedFelt 10 rfl) rfl (by decide) (fun h16 => ?_) (fun h16 => ?_)
      · refine x_aload_n 23 3 (ab_dd tk_s_refusedFelt 13 rfl) rfl rfl rfl ?_
        refine t_callV 26 M_ty_isMissing 0 0 [] (ab_dd tk_s_refusedFelt 14 rfl) rfl (by first | decide | omega) K_ty_isMissing V_ty_isMissing.1 V_ty_isMissing.2 L_s_213 rfl (Nat.le_of_ble_eq_true rfl) (by omega) (Nat.lt_of_lt_of_le (show (109 + 2 * q) < 120 by omega) hx.1) (x_109 hx (by omega)) rfl (c_ty_isMissing hx (by omega) (nI m) hm) (fun v1 w1 h1 => ?_)
        obtain ⟨rfl, rfl⟩ := h1
        refine x_if_eq_t 32 (ab_dd tk_s_refusedFelt 15 rfl) (by decide) (if_neg (nI_nn m (by omega))) ?_
        refine x_aload_n 33 3 (ab_dd tk_s_refusedFelt 18 rfl) rfl rfl rfl ?_
        refine t_getI 36 (ab_dd tk_s_refusedFelt 19 rfl) rfl F_s_224 (by omega) (Nat.lt_of_lt_of_le (show (109 + 2 * q) < 120 by omega) hx.1) (x_109 hx (by omega)) rfl (x_topn m hm ?_)
        refine x_iconst 37 1 (ab_dd tk_s_refusedFelt 20 rfl) rfl (by decide) (x_topn 1 rfl ?_)
        refine xn_icmp_lt 40 49 (ab_dd tk_s_refusedFelt 21 rfl) rfl (by decide) (by omega) (by omega) (fun h37 => ?_) (fun h37 => ?_)
        · refine x_bipush 51 (-4) (ab_dd tk_s_refusedFelt 26 rfl) rfl (by decide) ?_
          exact x_iret (ab_dd tk_s_refusedFelt 27 rfl) ⟨rI (by unfold cNf; rw [if_pos ⟨hdd, h16⟩, enq, if_neg (by rw [hm]; exact nI_m1 (by omega)), hm, cN_nI (by omega), if_neg (by omega)]), rfl⟩
        · refine x_aload_n 41 3 (ab_dd tk_s_refusedFelt 22 rfl) rfl rfl rfl ?_
          refine t_getI 44 (ab_dd tk_s_refusedFelt 23 rfl) rfl F_s_224 (by omega) (Nat.lt_of_lt_of_le (show (109 + 2 * q) < 120 by omega) hx.1) (x_109 hx (by omega)) rfl (x_topn m hm ?_)
          refine x_bipush 46 10 (ab_dd tk_s_refusedFelt 24 rfl) rfl (by decide) (x_topn 10 rfl ?_)
          refine xn_icmp_le 49 52 (ab_dd tk_s_refusedFelt 25 rfl) rfl (by decide) (by omega) (by omega) (fun h46 => ?_) (fun h46 => ?_)
          · refine x_iconst 53 0 (ab_dd tk_s_refusedFelt 28 rfl) rfl (by decide) (x_topn 0 rfl ?_)
            refine x_istore 55 [some (.ref 50), some (.int (nI q)), some (.int p), some (.ref (109 + 2 * q)), some (.int (nI 0))] 4 (ab_dd tk_s_refusedFelt 29 rfl) rfl (by decide) rfl ?_
            have loop : ∀ (n k : Nat), k + n = m → (∀ i, i < k → 0 ≤ sJ S (110 + 2 * q) i ∧ sJ S (110 + 2 * q) i ≤ 4) → ab_Ex G 1 M_s_refusedFelt 55 [some (.ref 50), some (.int (nI q)), some (.int p), some (.ref (109 + 2 * q)), some (.int (nI k))] [] (sw S) (fun v w' => v = some (.int (cNf S (aR a) e p)) ∧ w' = sw S) := by
              intro n
              induction n with
              | zero =>
                intro k hkm hall
                have hkq : k = m := by omega
                rw [hkq] at hall ⊢
                refine x_iload 57 4 (ab_dd tk_s_refusedFelt 30 rfl) rfl rfl ?_
                refine x_aload_n 58 3 (ab_dd tk_s_refusedFelt 31 rfl) rfl rfl rfl ?_
                refine t_getI 61 (ab_dd tk_s_refusedFelt 32 rfl) rfl F_s_224 (by omega) (Nat.lt_of_lt_of_le (show (109 + 2 * q) < 120 by omega) hx.1) (x_109 hx (by omega)) rfl (x_topn m hm ?_)
                refine x_icmp_ge_t 85 (ab_dd tk_s_refusedFelt 33 rfl) (by decide) ((nI_leI (a := m) (b := m) (by omega) (by omega)).mpr (show m ≤ m by omega)) ?_
                refine x_iconst 86 0 (ab_dd tk_s_refusedFelt 43 rfl) rfl (by decide) (x_topn 0 rfl ?_)
                exact x_iret (ab_dd tk_s_refusedFelt 44 rfl) ⟨rI (by unfold cNf; rw [if_pos ⟨hdd, h16⟩, enq, if_neg (by rw [hm]; exact nI_m1 (by omega)), hm, cN_nI (by omega), if_pos ⟨by omega, by omega⟩, if_pos hall]; rfl), rfl⟩
              | succ n ih =>
                intro k hkm hall
                refine x_iload 57 4 (ab_dd tk_s_refusedFelt 30 rfl) rfl rfl ?_
                refine x_aload_n 58 3 (ab_dd tk_s_refusedFelt 31 rfl) rfl rfl rfl ?_
                refine t_getI 61 (ab_dd tk_s_refusedFelt 32 rfl) rfl F_s_224 (by omega) (Nat.lt_of_lt_of_le (show (109 + 2 * q) < 120 by omega) hx.1) (x_109 hx (by omega)) rfl (x_topn m hm ?_)
                refine x_icmp_ge_f 64 (ab_dd tk_s_refusedFelt 33 rfl) rfl 85 (by decide) (fun z => absurd ((nI_leI (a := m) (b := k) (by omega) (by omega)).mp z) (show ¬ (m ≤ k) by omega)) ?_
                refine x_aload_n 65 3 (ab_dd tk_s_refusedFelt 34 rfl) rfl rfl rfl ?_
                refine x_iload 67 4 (ab_dd tk_s_refusedFelt 35 rfl) rfl rfl ?_
                refine t_callV 70 M_ty_numberAt 0 1 [_] (ab_dd tk_s_refusedFelt 36 rfl) rfl (by first | decide | omega) K_ty_numberAt V_ty_numberAt.1 V_ty_numberAt.2 L_s_225 rfl (Nat.le_of_ble_eq_true rfl) (by omega) (Nat.lt_of_lt_of_le (show (109 + 2 * q) < 120 by omega) hx.1) (x_109 hx (by omega)) rfl (c_ty_numberAt hx (by omega) k (by omega)) (fun v1 w1 h1 => ?_)
                obtain ⟨rfl, rfl⟩ := h1
                refine x_callS 73 M_s_isWarmth 0 1 [_] (ab_dd tk_s_refusedFelt 37 rfl) rfl (by first | decide | omega) K_s_isWarmth T_s_isWarmth L_s_283 rfl (Nat.le_of_ble_eq_true rfl) (c_s_isWarmth (sJ S (110 + 2 * q) k)) (fun v1 w1 h1 => ?_)
                obtain ⟨rfl, rfl⟩ := h1
                refine xb_if_ne 76 79 (ab_dd tk_s_refusedFelt 38 rfl) rfl (by decide) (fun h73 => ?_) (fun h73 => ?_)
                · refine xn_iinc 82 4 (fun y => [some (.ref 50), some (.int (nI q)), some (.int p), some (.ref (109 + 2 * q)), some (.int y)]) (k + 1) (ab_dd tk_s_refusedFelt 41 rfl) rfl (by decide) rfl (fun _ => rfl) (iinc_p 1) ?_
                  refine x_goto 55 (ab_dd tk_s_refusedFelt 42 rfl) (by decide) ?_
                  exact ih (k + 1) (by omega) (fun i hi => by by_cases z : i = k; (rw [z]; exact h73); exact hall i (by omega))
                · refine x_bipush 78 (-3) (ab_dd tk_s_refusedFelt 39 rfl) rfl (by decide) ?_
                  exact x_iret (ab_dd tk_s_refusedFelt 40 rfl) ⟨rI (by unfold cNf; rw [if_pos ⟨hdd, h16⟩, enq, if_neg (by rw [hm]; exact nI_m1 (by omega)), hm, cN_nI (by omega), if_pos ⟨by omega, by omega⟩, if_neg (fun z => h73 (z k (by omega)))]), rfl⟩
            exact loop m 0 (by omega) (fun i hi => absurd hi (by omega))
          · refine x_bipush 51 (-4) (ab_dd tk_s_refusedFelt 26 rfl) rfl (by decide) ?_
            exact x_iret (ab_dd tk_s_refusedFelt 27 rfl) ⟨rI (by unfold cNf; rw [if_pos ⟨hdd, h16⟩, enq, if_neg (by rw [hm]; exact nI_m1 (by omega)), hm, cN_nI (by omega), if_neg (by omega)]), rfl⟩
      · refine x_bipush 21 (-2) (ab_dd tk_s_refusedFelt 11 rfl) rfl (by decide) ?_
        exact x_iret (ab_dd tk_s_refusedFelt 12 rfl) ⟨rI (if_neg (fun z => h16 z.2)).symm, rfl⟩
  · refine x_aload_n 1 0 (ab_dd tk_s_refusedFelt 0 rfl) rfl rfl rfl ?_
    refine x_iload_n 2 1 (ab_dd tk_s_refusedFelt 1 rfl) rfl rfl rfl ?_
    refine t_callV 5 M_s_trayAt 0 1 [_] (ab_dd tk_s_refusedFelt 2 rfl) rfl (by first | decide | omega) K_s_trayAt V_s_trayAt.1 V_s_trayAt.2 L_s_209 rfl (Nat.le_of_ble_eq_true rfl) (by decide) (Nat.lt_of_lt_of_le (by decide) hx.1) (hx.2.1 0 (by decide)) rfl (c_s_trayAtN hx e hdd) (fun v1 w1 h1 => ?_)
    obtain ⟨rfl, rfl⟩ := h1
    refine x_astore_nN 6 [some (.ref 50), some (.int e), some (.int p), some (.null), none] 3 (ab_dd tk_s_refusedFelt 3 rfl) rfl rfl (by decide) rfl ?_
    refine x_aload_nN 7 3 (ab_dd tk_s_refusedFelt 4 rfl) rfl rfl rfl ?_
    refine x_ifnull_t 19 (ab_dd tk_s_refusedFelt 5 rfl) (by decide) ?_
    refine x_bipush 21 (-2) (ab_dd tk_s_refusedFelt 11 rfl) rfl (by decide) ?_
    exact x_iret (ab_dd tk_s_refusedFelt 12 rfl) ⟨rI (if_neg (fun z => hdd z.1)).symm, rfl⟩
def tb_s_isFelt : List (Nat × Instr × Nat) := [(0, .aload_n 0, 1), (1, .getfield 27, 3), (4, .getfield 145, 3), (7, .istore_n 3, 1), (8, .iconst 0, 1), (9, .istore 4, 2), (11, .iload 4, 2), (13, .aload_n 1, 1), (14, .getfield 224, 3), (17, .if_icmp .ge 43, 3), (20, .aload_n 0, 1), (21, .getfield 81, 3), (24, .iload_n 3, 1), (25, .aload_n 0, 1), (26, .getfield 27, 3), (29, .getfield 151, 3), (32, .invokevirtual 174, 3), (35, .istore_n 3, 1), (36, .iload_n 3, 1), (37, .iload_n 2, 1), (38, .invokestatic 148, 3), (41, .i2l, 1), (42, .aload_n 1, 1), (43, .iload 4, 2), (45, .invokevirtual 225, 3), (48, .lcmp, 1), (49, .ifCond .eq 5, 3), (52, .iconst 0, 1), (53, .ireturn, 1), (54, .iinc 4 1, 3), (57, .goto (-46), 3), (60, .iconst 1, 1), (61, .ireturn, 1)]
theorem tk_s_isFelt : ∀ q ∈ tb_s_isFelt, decode M_s_isFelt.2.1 q.1 = .ok q.2 := by decide +kernel
theorem b_s_isFelt {G : ab_G} {S : ab_S} {im : Nat → Prop} {a b : Nat → Int32} {c bh nb st st2 u : Nat} (h : kBd S im a c b bh nb st st2 u) (ht : sdE S 55 (rowT a)) {b1 : Nat → Int32} (h94 : clI S im 94 c b1 98 0 st2) (ho1 : aOk b1) (hs1 : sta a b1) (hE1 : aE b1 = aE a) {q m : Nat} (hq : q < 4) (hm40 : m ≤ 40) (hm : sI S (109 + 2 * q) 2 = nI m) (r : Nat) (hr : r < 4) : ab_C G 4 M_s_isFelt [.ref 50, .ref (109 + 2 * q), .int (nI r)] (sw S) (fun v w' => v = some (.int (if aFl b1 (sJ S (110 + 2 * q)) m (b1 40) r then 1 else 0)) ∧ ∃ S', w' = sw S' ∧ sEq [98, 99, 101, 102, 103] S S' ∧ clI S' im 94 c b1 98 0 st2 ∧ kBd S' im a c b bh nb st st2 u ∧ sdE S' 55 (rowT a)) := by
  refine x_enter [some (.ref 50), some (.ref (109 + 2 * q)), some (.int (nI r)), none, none] (by decide) (Nat.le_of_ble_eq_true rfl) rfl (fun v w' h => by obtain ⟨rfl, -⟩ := h; show narrow _ _ = _; split <;> rfl) ?_
  have hbh := h.bh.1
  have h0 := h
  obtain ⟨hx, hse, kc, ⟨him, hil, h145⟩, ha, hc, ⟨hb1, hb2, hcl, hnb⟩, hcl9, -, hid, -, hu1, hu2⟩ := h0
  have h40 : sI S 55 3 = a 40 := ht.2.2.2.1.trans ha.1.m40.1.symm
  have hg1 : aGood b1 := ha.sta ho1 hs1
  have hR1 := ho1.R.2
  obtain ⟨eW, eQ⟩ := row_of hs1.R hE1
  obtain ⟨hq1, hw1, hE01⟩ := rowT_in ho1
  have h625 := p5_6 hR1
  have h55w : sI S 55 1 = nI (aW b1) := by rw [eW]; exact ht.2.1
  have h55q : sI S 55 2 = nI (aQ b1) := by rw [eQ]; exact ht.2.2.1
  have h50 : 50 ≤ sn S := by omega
  have loop : ∀ (n k : Nat), k + n = m → (∀ i, i < k → lN (mWa (aI b1 (b1 40) (i + 1)) r) = sJ S (110 + 2 * q) i) → ∀ S2 : ab_S, sEq [98, 99, 101, 102, 103] S S2 → clI S2 im 94 c b1 98 0 st2 → kBd S2 im a c b bh nb st st2 u → ab_Ex G 4 M_s_isFelt 11 [some (.ref 50), some (.ref (109 + 2 * q)), some (.int (nI r)), some (.int (nI (cI b1 (aW b1) (aQ b1) k))), some (.int (nI k))] [] (sw S2) (fun v w' => v = some (.int (if aFl b1 (sJ S (110 + 2 * q)) m (b1 40) r then 1 else 0)) ∧ ∃ S', w' = sw S' ∧ sEq [98, 99, 101, 102, 103] S S' ∧ clI S' im 94 c b1 98 0 st2 ∧ kBd S' im a c b bh nb st st2 u ∧ sdE S' 55 (rowT a)) := by
    intro n
    induction n with
    | zero =>
      intro k hkm hall S2 hE2 hcl2 hB2
      have hkq : k = m := by omega
      rw [hkq] at hall ⊢
      have hx2 : xSh S2 := hB2.1
      have hm2 : sI S2 (109 + 2 * q) 2 = nI m := (congrFun (hE2.2.2.1 _ (by simp only [List.mem_cons, List.not_mem_nil, or_false, not_or]; omega)) 2).trans hm
      refine x_iload 13 4 (ab_dd tk_s_isFelt 6 rfl) rfl rfl ?_
      refine x_aload_n 14 1 (ab_dd tk_s_isFelt 7 rfl) rfl rfl rfl ?_
      refine t_getI 17 (ab_dd tk_s_isFelt 8 rfl) rfl F_s_224 (by omega) (Nat.lt_of_lt_of_le (show (109 + 2 * q) < 120 by omega) hx2.1) (x_109 hx2 (by omega)) rfl (x_topn m hm2 ?_)
      refine x_icmp_ge_t 60 (ab_dd tk_s_isFelt 9 rfl) (by decide) ((nI_leI (a := m) (b := m) (by omega) (by omega)).mpr (show m ≤ m by omega)) ?_
      refine x_iconst 61 1 (ab_dd tk_s_isFelt 31 rfl) rfl (by decide) (x_topn 1 rfl ?_)
      exact x_iret (ab_dd tk_s_isFelt 32 rfl) ⟨rI (if_pos hall).symm, S2, rfl, hE2, hcl2, hB2, ht.eq hE2 (by simp only [List.mem_cons, List.not_mem_nil, or_false, not_or]; omega)⟩
    | succ n ih =>
      intro k hkm hall S2 hE2 hcl2 hB2
      have hB2c := hB2
      obtain ⟨hx2, hse2, kc2, -⟩ := hB2c
      have h502 : 50 ≤ sn S2 := Nat.le_trans (by decide) hx2.1
      have hm2 : sI S2 (109 + 2 * q) 2 = nI m := (congrFun (hE2.2.2.1 _ (by simp only [List.mem_cons, List.not_mem_nil, or_false, not_or]; omega)) 2).trans hm
      have h55 : sI S2 55 = sI S 55 := hE2.2.2.1 55 (by simp only [List.mem_cons, List.not_mem_nil, or_false, not_or]; omega)
      have hck := cI_lt hR1 hq1 hw1 k
      have hck1 := cI_lt hR1 hq1 hw1 (k + 1)
      have hc6 : cI b1 (aW b1) (aQ b1) (k + 1) < 625 := by omega
      have h55q2 : sI S2 55 2 = nI (aQ b1) := by rw [h55]; exact h55q
      refine x_iload 13 4 (ab_dd tk_s_isFelt 6 rfl) rfl rfl ?_
      refine x_aload_n 14 1 (ab_dd tk_s_isFelt 7 rfl) rfl rfl rfl ?_
      refine t_getI 17 (ab_dd tk_s_isFelt 8 rfl) rfl F_s_224 (by omega) (Nat.lt_of_lt_of_le (show (109 + 2 * q) < 120 by omega) hx2.1) (x_109 hx2 (by omega)) rfl (x_topn m hm2 ?_)
      refine x_icmp_ge_f 20 (ab_dd tk_s_isFelt 9 rfl) rfl 60 (by decide) (fun z => absurd ((nI_leI (a := m) (b := k) (by omega) (by omega)).mp z) (show ¬ (m ≤ k) by omega)) ?_
      refine x_aload_n 21 0 (ab_dd tk_s_isFelt 10 rfl) rfl rfl rfl ?_
      refine t_getP 24 94 (ab_dd tk_s_isFelt 11 rfl) rfl F_s_81 (by decide) (Nat.lt_of_lt_of_le (by decide) hx2.1) (hx2.2.1 0 (by decide)) rfl (hx2.2.2 (50, 13, 94) (by decide)) ?_
      refine x_iload_n 25 3 (ab_dd tk_s_isFelt 12 rfl) rfl rfl rfl ?_
      refine x_aload_n 26 0 (ab_dd tk_s_isFelt 13 rfl) rfl rfl rfl ?_
      refine t_getP 29 55 (ab_dd tk_s_isFelt 14 rfl) rfl F_s_27 (by decide) (Nat.lt_of_lt_of_le (by decide) hx2.1) (hx2.2.1 0 (by decide)) rfl (hx2.2.2 (50, 3, 55) (by decide)) ?_
      refine t_getI 32 (ab_dd tk_s_isFelt 15 rfl) rfl F_s_151 (by decide) (Nat.lt_of_lt_of_le (by decide) hx2.1) (hx2.2.1 5 (by decide)) rfl (x_topn (aQ b1) h55q2 ?_)
      refine t_callV 35 M_cl_behind 3 2 [_, _] (ab_dd tk_s_isFelt 16 rfl) rfl (by first | decide | omega) K_cl_behind V_cl_behind.1 V_cl_behind.2 L_s_174 rfl (Nat.le_of_ble_eq_true rfl) (by decide) (Nat.lt_of_lt_of_le (by decide) hx2.1) (hx2.2.1 44 (by decide)) rfl (c_cl_behind (hx2.cl (Or.inr rfl)) him hcl2 hx2 hse2 kc2 hg1 (cI b1 (aW b1) (aQ b1) k) (aQ b1) hck hq1) (fun v1 w1 h1 => ?_)
      obtain ⟨rfl, S3, rfl, hE3, hcl3⟩ := h1
      have hB3 : kBd S3 im a c b bh nb st st2 u := hB2.se94 hE3 (fun y hy => by simp only [List.mem_cons, List.not_mem_nil, or_false] at hy; omega) ⟨b1, ho1, hs1, hcl3⟩ (congrFun (hE3.2.2.1 94 (by simp only [List.mem_cons, List.not_mem_nil, or_false, not_or]; omega)) 1) (Nat.le_refl _) hu2
      have hx3 : xSh S3 := hB3.1
      have kc3 := hB3.2.2.1
      have h503 : 50 ≤ sn S3 := Nat.le_trans (by decide) hx3.1
      have hE23 : sEq [98, 99, 101, 102, 103] S S3 := hE2.tr (hE3.mono (fun y hy => by simp only [List.mem_cons, List.not_mem_nil, or_false] at hy ⊢; omega))
      have hm3 : sI S3 (109 + 2 * q) 2 = nI m := (congrFun (hE3.2.2.1 _ (by simp only [List.mem_cons, List.not_mem_nil, or_false, not_or]; omega)) 2).trans hm2
      have eJ : sJ S3 (110 + 2 * q) = sJ S (110 + 2 * q) := hE23.2.2.2.1 _ (by simp only [List.mem_cons, List.not_mem_nil, or_false, not_or]; omega)
      refine x_istore_n 36 [some (.ref 50), some (.ref (109 + 2 * q)), some (.int (nI r)), some (.int (nI (cI b1 (aW b1) (aQ b1) (k + 1)))), some (.int (nI k))] 3 (ab_dd tk_s_isFelt 17 rfl) rfl rfl (by decide) rfl ?_
      refine x_iload_n 37 3 (ab_dd tk_s_isFelt 18 rfl) rfl rfl rfl ?_
      refine x_iload_n 38 2 (ab_dd tk_s_isFelt 19 rfl) rfl rfl rfl ?_
      refine x_callS 41 M_s_warmthOf 0 2 [_, _] (ab_dd tk_s_isFelt 20 rfl) rfl (by first | decide | omega) K_s_warmthOf T_s_warmthOf L_s_148 rfl (Nat.le_of_ble_eq_true rfl) (c_s_warmthOf kc3 h503 (cI b1 (aW b1) (aQ b1) (k + 1)) r hc6 hr) (fun v1 w1 h1 => ?_)
      obtain ⟨rfl, rfl⟩ := h1
      have h5 : mWa (cI b1 (aW b1) (aQ b1) (k + 1)) r < 5 := Nat.mod_lt _ (by decide)
      have eI : mWa (aI b1 (b1 40) (k + 1)) r = mWa (cI b1 (aW b1) (aQ b1) (k + 1)) r := by rw [aI_cI ho1, cSt_wa hc6]
      refine x_i2l 42 (ab_dd tk_s_isFelt 21 rfl) rfl (x_topL (lN (mWa (cI b1 (aW b1) (aQ b1) (k + 1)) r)) (nI_l (by omega)) ?_)
      refine x_aload_n 43 1 (ab_dd tk_s_isFelt 22 rfl) rfl rfl rfl ?_
      refine x_iload 45 4 (ab_dd tk_s_isFelt 23 rfl) rfl rfl ?_
      refine t_callV 48 M_ty_numberAt 0 1 [_] (ab_dd tk_s_isFelt 24 rfl) rfl (by first | decide | omega) K_ty_numberAt V_ty_numberAt.1 V_ty_numberAt.2 L_s_225 rfl (Nat.le_of_ble_eq_true rfl) (by omega) (Nat.lt_of_lt_of_le (show (109 + 2 * q) < 120 by omega) hx3.1) (x_109 hx3 (by omega)) rfl (c_ty_numberAt hx3 (by omega) k (by omega)) (fun v1 w1 h1 => ?_)
      obtain ⟨rfl, rfl⟩ := h1
      rw [eJ]
      refine x_lcmp 49 (ab_dd tk_s_isFelt 25 rfl) rfl ?_
      refine x_if_eq 52 54 (ab_dd tk_s_isFelt 26 rfl) rfl (by decide) (fun h49 => ?_) (fun h49 => ?_)
      · refine xn_iinc 57 4 (fun y => [some (.ref 50), some (.ref (109 + 2 * q)), some (.int (nI r)), some (.int (nI (cI b1 (aW b1) (aQ b1) (k + 1)))), some (.int y)]) (k + 1) (ab_dd tk_s_isFelt 29 rfl) rfl (by decide) rfl (fun _ => rfl) (iinc_p 1) ?_
        refine x_goto 11 (ab_dd tk_s_isFelt 30 rfl) (by decide) ?_
        exact ih (k + 1) (by omega) (fun i hi => by by_cases z : i = k; (rw [z, eI]; exact (lg_cmp_eq _ _).mp h49); exact hall i (by omega)) S3 hE23 hcl3 hB3
      · refine x_iconst 53 0 (ab_dd tk_s_isFelt 27 rfl) rfl (by decide) (x_topn 0 rfl ?_)
        exact x_iret (ab_dd tk_s_isFelt 28 rfl) ⟨rI (if_neg (fun z => h49 ((lg_cmp_eq _ _).mpr (by rw [← eI]; exact z k (by omega))))).symm, S3, rfl, hE23, hcl3, hB3, ht.eq hE23 (by simp only [List.mem_cons, List.not_mem_nil, or_false, not_or]; omega)⟩
  refine x_aload_n 1 0 (ab_dd tk_s_isFelt 0 rfl) rfl rfl rfl ?_
  refine t_getP 4 55 (ab_dd tk_s_isFelt 1 rfl) rfl F_s_27 (by decide) (Nat.lt_of_lt_of_le (by decide) hx.1) (hx.2.1 0 (by decide)) rfl (hx.2.2 (50, 3, 55) (by decide)) ?_
  refine t_getI 7 (ab_dd tk_s_isFelt 2 rfl) rfl F_s_145 (by decide) (Nat.lt_of_lt_of_le (by decide) hx.1) (hx.2.1 5 (by decide)) rfl (x_topn (aW b1) h55w ?_)
  refine x_istore_n 8 [some (.ref 50), some (.ref (109 + 2 * q)), some (.int (nI r)), some (.int (nI (aW b1))), none] 3 (ab_dd tk_s_isFelt 3 rfl) rfl rfl (by decide) rfl ?_
  refine x_iconst 9 0 (ab_dd tk_s_isFelt 4 rfl) rfl (by decide) (x_topn 0 rfl ?_)
  refine x_istore 11 [some (.ref 50), some (.ref (109 + 2 * q)), some (.int (nI r)), some (.int (nI (aW b1))), some (.int (nI 0))] 4 (ab_dd tk_s_isFelt 5 rfl) rfl (by decide) rfl ?_
  exact loop m 0 (by omega) (fun i hi => absurd hi (by omega)) S sEq.rf h94 h
/-- the supposed climate told another row -/
theorem b_supp {G : ab_G} {S : ab_S} {im : Nat → Prop} {a b : Nat → Int32} {c bh nb st st2 u : Nat} (h : kBd S im a c b bh nb st st2 u) (ht : sdE S 55 (rowT a)) (hu : u + 1 < 2 ^ 20) {b1 : Nat → Int32} (ho1 : aOk b1) (hs1 : sta a b1) : ab_C G 0 M_cl_suppose [.ref 94, .int (nI (seaC b1)), .int (b1 40)] (sw S) (fun v w' => v = none ∧ ∃ S' st2', w' = sw S' ∧ sEq [94] S S' ∧ clI S' im 94 c b1 98 0 st2' ∧ kBd S' im a c b bh nb st st2' (u + 1) ∧ sdE S' 55 (rowT a)) := by
  have h0 := h
  obtain ⟨hx, hse, kc, ⟨him, hil, h145⟩, ha, hc, ⟨hb1, hb2, hcl, hnb⟩, ⟨b0, y1, y2, y3⟩, -, hid, -, hu1, hu2⟩ := h0
  refine (c_cl_suppose2 (hx.cl (Or.inr rfl)) him y3 y1 ho1 (y2.sy.tr hs1) (by omega)).mono (fun v w' z => ?_)
  obtain ⟨rfl, S', st', rfl, hE, hcl', hkp, z1, z2⟩ := z
  exact ⟨rfl, S', st', rfl, hE, hcl', h.se94 hE (fun y hy => by have := List.mem_singleton.mp hy; omega) ⟨b1, ho1, hs1, hcl'⟩ hkp.1 (by omega) (by omega), ht.eq hE (fun z => by have := List.mem_singleton.mp z; omega)⟩
def tb_s_seasonsFelt : List (Nat × Instr × Nat) := [(0, .iconst 0, 1), (1, .istore_n 3, 1), (2, .iconst 0, 1), (3, .istore 4, 2), (5, .iload 4, 2), (7, .iconst 4, 1), (8, .if_icmp .ge 52, 3), (11, .aload_n 0, 1), (12, .getfield 81, 3), (15, .aload_n 0, 1), (16, .getfield 27, 3), (19, .getfield 134, 3), (22, .iload_n 2, 1), (23, .iload 4, 2), (25, .invokestatic 266, 3), (28, .aload_n 0, 1), (29, .getfield 27, 3), (32, .getfield 180, 3), (35, .invokevirtual 183, 3), (38, .aload_n 0, 1), (39, .aload_n 1, 1), (40, .iload_n 2, 1), (41, .invokevirtual 363, 3), (44, .ifCond .eq 10, 3), (47, .iload_n 3, 1), (48, .iconst 1, 1), (49, .iload 4, 2), (51, .ishl, 1), (52, .ior, 1), (53, .istore_n 3, 1), (54, .iinc 4 1, 3), (57, .goto (-52), 3), (60, .iload_n 3, 1), (61, .ireturn, 1)]
theorem tk_s_seasonsFelt : ∀ q ∈ tb_s_seasonsFelt, decode M_s_seasonsFelt.2.1 q.1 = .ok q.2 := by decide +kernel
theorem b_s_seasonsFelt {G : ab_G} {S : ab_S} {im : Nat → Prop} {a b : Nat → Int32} {c bh nb st st2 u : Nat} (h : kBd S im a c b bh nb st st2 u) (ht : sdE S 55 (rowT a)) (hu : u + 4 < 2 ^ 20) {q m : Nat} (hq : q < 4) (hm40 : m ≤ 40) (hm : sI S (109 + 2 * q) 2 = nI m) (r : Nat) (hr : r < 4) : ab_C G 5 M_s_seasonsFelt [.ref 50, .ref (109 + 2 * q), .int (nI r)] (sw S) (fun v w' => v = some (.int (nI (aSo a (sJ S (110 + 2 * q)) m r))) ∧ ∃ S' st2', w' = sw S' ∧ sEq [94, 98, 99, 101, 102, 103] S S' ∧ kBd S' im a c b bh nb st st2' (u + 4) ∧ sdE S' 55 (rowT a)) := by
  refine x_enter [some (.ref 50), some (.ref (109 + 2 * q)), some (.int (nI r)), none, none] (by decide) (Nat.le_of_ble_eq_true rfl) rfl (fun v w' h => by obtain ⟨rfl, -⟩ := h; rfl) ?_
  have hbh := h.bh.1
  have h0 := h
  obtain ⟨hx, hse, kc, ⟨him, hil, h145⟩, ha, hc, ⟨hb1, hb2, hcl, hnb⟩, hcl9, -, hid, -, hu1, hu2⟩ := h0
  have h40 : sI S 55 3 = a 40 := ht.2.2.2.1.trans ha.1.m40.1.symm
  have hsl := seaC_lt ha.1
  have loop : ∀ (n k : Nat), k + n = 4 → ∀ (S2 : ab_S) (s2 : Nat), sEq [94, 98, 99, 101, 102, 103] S S2 → kBd S2 im a c b bh nb st s2 (u + k) → sdE S2 55 (rowT a) → ab_Ex G 5 M_s_seasonsFelt 5 [some (.ref 50), some (.ref (109 + 2 * q)), some (.int (nI r)), some (.int (nI (mQ (fun s => decide (aFl (aSn a r s) (sJ S (110 + 2 * q)) m (a 40) r)) k))), some (.int (nI k))] [] (sw S2) (fun v w' => v = some (.int (nI (aSo a (sJ S (110 + 2 * q)) m r))) ∧ ∃ S' st2', w' = sw S' ∧ sEq [94, 98, 99, 101, 102, 103] S S' ∧ kBd S' im a c b bh nb st st2' (u + 4) ∧ sdE S' 55 (rowT a)) := by
    intro n
    induction n with
    | zero =>
      intro k hkm S2 s2 hE2 hB2 hn2
      have hkq : k = 4 := by omega
      rw [hkq] at hB2 ⊢
      refine x_iload 7 4 (ab_dd tk_s_seasonsFelt 4 rfl) rfl rfl ?_
      refine x_iconst 8 4 (ab_dd tk_s_seasonsFelt 5 rfl) rfl (by decide) (x_topn 4 rfl ?_)
      refine x_icmp_ge_t 60 (ab_dd tk_s_seasonsFelt 6 rfl) (by decide) (by decide) ?_
      refine x_iload_n 61 3 (ab_dd tk_s_seasonsFelt 32 rfl) rfl rfl rfl ?_
      exact x_iret (ab_dd tk_s_seasonsFelt 33 rfl) ⟨rfl, S2, s2, rfl, hE2, hB2, hn2⟩
    | succ n ih =>
      intro k hkm S2 s2 hE2 hB2 hn2
      have hx2 : xSh S2 := hB2.1
      have hqk := mQ_lt (fun s => decide (aFl (aSn a r s) (sJ S (110 + 2 * q)) m (a 40) r)) k
      have hp16 : 2 ^ k ≤ 8 := (show ∀ k, k < 4 → 2 ^ k ≤ 8 by decide) k (by omega)
      obtain ⟨k1, k2, k3, k4⟩ := aSn_ok ha.1 hr (show k < 4 by omega)
      have h402 : sI S2 55 3 = aSn a r k 40 := by rw [k4]; exact hn2.2.2.2.1.trans ha.1.m40.1.symm
      refine x_iload 7 4 (ab_dd tk_s_seasonsFelt 4 rfl) rfl rfl ?_
      refine x_iconst 8 4 (ab_dd tk_s_seasonsFelt 5 rfl) rfl (by decide) (x_topn 4 rfl ?_)
      refine x_icmp_ge_f 11 (ab_dd tk_s_seasonsFelt 6 rfl) rfl 60 (by decide) (fun z => absurd ((nI_leI (a := 4) (b := k) (by omega) (by omega)).mp z) (show ¬ (4 ≤ k) by omega)) ?_
      refine x_aload_n 12 0 (ab_dd tk_s_seasonsFelt 7 rfl) rfl rfl rfl ?_
      refine t_getP 15 94 (ab_dd tk_s_seasonsFelt 8 rfl) rfl F_s_81 (by decide) (Nat.lt_of_lt_of_le (by decide) hx2.1) (hx2.2.1 0 (by decide)) rfl (hx2.2.2 (50, 13, 94) (by decide)) ?_
      refine x_aload_n 16 0 (ab_dd tk_s_seasonsFelt 9 rfl) rfl rfl rfl ?_
      refine t_getP 19 55 (ab_dd tk_s_seasonsFelt 10 rfl) rfl F_s_27 (by decide) (Nat.lt_of_lt_of_le (by decide) hx2.1) (hx2.2.1 0 (by decide)) rfl (hx2.2.2 (50, 3, 55) (by decide)) ?_
      refine t_getI 22 (ab_dd tk_s_seasonsFelt 11 rfl) rfl F_s_134 (by decide) (Nat.lt_of_lt_of_le (by decide) hx2.1) (hx2.2.1 5 (by decide)) rfl (x_topn (seaC a) hn2.1 ?_)
      refine x_iload_n 23 2 (ab_dd tk_s_seasonsFelt 12 rfl) rfl rfl rfl ?_
      refine x_iload 25 4 (ab_dd tk_s_seasonsFelt 13 rfl) rfl rfl ?_
      refine x_callS 28 M_s_withSeason 0 3 [_, _, _] (ab_dd tk_s_seasonsFelt 14 rfl) rfl (by first | decide | omega) K_s_withSeason T_s_withSeason L_s_266 rfl (Nat.le_of_ble_eq_true rfl) (c_s_withSeason (seaC a) r k hsl hr (by omega)) (fun v1 w1 h1 => ?_)
      obtain ⟨rfl, rfl⟩ := h1
      rw [sea_sn ha.1 hr (show k < 4 by omega)]
      refine x_aload_n 29 0 (ab_dd tk_s_seasonsFelt 15 rfl) rfl rfl rfl ?_
      refine t_getP 32 55 (ab_dd tk_s_seasonsFelt 16 rfl) rfl F_s_27 (by decide) (Nat.lt_of_lt_of_le (by decide) hx2.1) (hx2.2.1 0 (by decide)) rfl (hx2.2.2 (50, 3, 55) (by decide)) ?_
      refine t_getI 35 (ab_dd tk_s_seasonsFelt 17 rfl) rfl F_s_180 (by decide) (Nat.lt_of_lt_of_le (by decide) hx2.1) (hx2.2.1 5 (by decide)) rfl (x_topx (aSn a r k 40) h402 ?_)
      refine t_callV 38 M_cl_suppose 0 2 [_, _] (ab_dd tk_s_seasonsFelt 18 rfl) rfl (by first | decide | omega) K_cl_suppose V_cl_suppose.1 V_cl_suppose.2 L_s_183 rfl (Nat.le_of_ble_eq_true rfl) (by decide) (Nat.lt_of_lt_of_le (by decide) hx2.1) (hx2.2.1 44 (by decide)) rfl (b_supp hB2 hn2 (by omega) k1 (sta.sn hr)) (fun v1 w1 h1 => ?_)
      obtain ⟨rfl, S3, s3, rfl, hE3, hcl3, hB3, hn3⟩ := h1
      have hx3 : xSh S3 := hB3.1
      have hE23 : sEq [94, 98, 99, 101, 102, 103] S S3 := hE2.tr (hE3.mono (fun y hy => by simp only [List.mem_cons, List.not_mem_nil, or_false] at hy ⊢; omega))
      have hm3 : sI S3 (109 + 2 * q) 2 = nI m := (congrFun (hE23.2.2.1 _ (by simp only [List.mem_cons, List.not_mem_nil, or_false, not_or]; omega)) 2).trans hm
      have eJ3 : sJ S3 (110 + 2 * q) = sJ S (110 + 2 * q) := hE23.2.2.2.1 _ (by simp only [List.mem_cons, List.not_mem_nil, or_false, not_or]; omega)
      refine x_aload_n 39 0 (ab_dd tk_s_seasonsFelt 19 rfl) rfl rfl rfl ?_
      refine x_aload_n 40 1 (ab_dd tk_s_seasonsFelt 20 rfl) rfl rfl rfl ?_
      refine x_iload_n 41 2 (ab_dd tk_s_seasonsFelt 21 rfl) rfl rfl rfl ?_
      have hft := b_s_isFelt (G := G) hB3 hn3 hcl3 k1 (sta.sn hr) k3 hq hm40 hm3 r hr
      rw [eJ3, k4] at hft
      refine t_callV 44 M_s_isFelt 4 2 [_, _] (ab_dd tk_s_seasonsFelt 22 rfl) rfl (by first | decide | omega) K_s_isFelt V_s_isFelt.1 V_s_isFelt.2 L_s_363 rfl (Nat.le_of_ble_eq_true rfl) (by decide) (Nat.lt_of_lt_of_le (by decide) hx3.1) (hx3.2.1 0 (by decide)) rfl (hft) (fun v1 w1 h1 => ?_)
      obtain ⟨rfl, S4, rfl, hE4, hcl4, hB4, hn4⟩ := h1
      have hx4 : xSh S4 := hB4.1
      have hE24 : sEq [94, 98, 99, 101, 102, 103] S S4 := hE23.tr (hE4.mono (fun y hy => by simp only [List.mem_cons, List.not_mem_nil, or_false] at hy ⊢; omega))
      refine xb_if_eq 47 54 (ab_dd tk_s_seasonsFelt 23 rfl) rfl (by decide) (fun h44 => ?_) (fun h44 => ?_)
      · refine xn_iinc 57 4 (fun y => [some (.ref 50), some (.ref (109 + 2 * q)), some (.int (nI r)), some (.int (nI (mQ (fun s => decide (aFl (aSn a r s) (sJ S (110 + 2 * q)) m (a 40) r)) k))), some (.int y)]) (k + 1) (ab_dd tk_s_seasonsFelt 30 rfl) rfl (by decide) rfl (fun _ => rfl) (iinc_p 1) ?_
        refine x_goto 5 (ab_dd tk_s_seasonsFelt 31 rfl) (by decide) ?_
        have hI := ih (k + 1) (by omega) S4 s3 hE24 hB4 hn4
        rw [show mQ (fun s => decide (aFl (aSn a r s) (sJ S (110 + 2 * q)) m (a 40) r)) (k + 1) = mQ (fun s => decide (aFl (aSn a r s) (sJ S (110 + 2 * q)) m (a 40) r)) k from by show mQ (fun s => decide (aFl (aSn a r s) (sJ S (110 + 2 * q)) m (a 40) r)) k + (if decide _ = true then _ else 0) = _; rw [if_neg (by rw [decide_eq_true_iff]; exact h44), Nat.add_zero]] at hI
        exact hI
      · refine x_iload_n 48 3 (ab_dd tk_s_seasonsFelt 24 rfl) rfl rfl rfl ?_
        refine x_iconst 49 1 (ab_dd tk_s_seasonsFelt 25 rfl) rfl (by decide) (x_topn 1 rfl ?_)
        refine x_iload 51 4 (ab_dd tk_s_seasonsFelt 26 rfl) rfl rfl ?_
        refine x_ishl 52 (ab_dd tk_s_seasonsFelt 27 rfl) rfl ?_
        refine x_ior 53 (ab_dd tk_s_seasonsFelt 28 rfl) rfl (x_topn (mQ (fun s => decide (aFl (aSn a r s) (sJ S (110 + 2 * q)) m (a 40) r)) k + 2 ^ k) (or_N (by omega) hqk) ?_)
        refine x_istore_n 54 [some (.ref 50), some (.ref (109 + 2 * q)), some (.int (nI r)), some (.int (nI (mQ (fun s => decide (aFl (aSn a r s) (sJ S (110 + 2 * q)) m (a 40) r)) k + 2 ^ k))), some (.int (nI k))] 3 (ab_dd tk_s_seasonsFelt 29 rfl) rfl rfl (by decide) rfl ?_
        refine xn_iinc 57 4 (fun y => [some (.ref 50), some (.ref (109 + 2 * q)), some (.int (nI r)), some (.int (nI (mQ (fun s => decide (aFl (aSn a r s) (sJ S (110 + 2 * q)) m (a 40) r)) k + 2 ^ k))), some (.int y)]) (k + 1) (ab_dd tk_s_seasonsFelt 30 rfl) rfl (by decide) rfl (fun _ => rfl) (iinc_p 1) ?_
        refine x_goto 5 (ab_dd tk_s_seasonsFelt 31 rfl) (by decide) ?_
        have hI := ih (k + 1) (by omega) S4 s3 hE24 hB4 hn4
        rw [show mQ (fun s => decide (aFl (aSn a r s) (sJ S (110 + 2 * q)) m (a 40) r)) (k + 1) = mQ (fun s => decide (aFl (aSn a r s) (sJ S (110 + 2 * q)) m (a 40) r)) k + 2 ^ k from by show mQ (fun s => decide (aFl (aSn a r s) (sJ S (110 + 2 * q)) m (a 40) r)) k + (if decide _ = true then _ else 0) = _; rw [if_pos (by rw [decide_eq_true_iff]; exact h44)]] at hI
        exact hI
  refine x_iconst 1 0 (ab_dd tk_s_seasonsFelt 0 rfl) rfl (by decide) (x_topn 0 rfl ?_)
  refine x_istore_n 2 [some (.ref 50), some (.ref (109 + 2 * q)), some (.int (nI r)), some (.int (nI 0)), none] 3 (ab_dd tk_s_seasonsFelt 1 rfl) rfl rfl (by decide) rfl ?_
  refine x_iconst 3 0 (ab_dd tk_s_seasonsFelt 2 rfl) rfl (by decide) (x_topn 0 rfl ?_)
  refine x_istore 5 [some (.ref 50), some (.ref (109 + 2 * q)), some (.int (nI r)), some (.int (nI 0)), some (.int (nI 0))] 4 (ab_dd tk_s_seasonsFelt 3 rfl) rfl (by decide) rfl ?_
  exact loop 4 0 (by omega) S st2 sEq.rf h ht
def tb_s_seasons : List (Nat × Instr × Nat) := [(0, .aload_n 0, 1), (1, .iload_n 1, 1), (2, .iload_n 2, 1), (3, .invokevirtual 356, 3), (6, .istore_n 3, 1), (7, .iload_n 3, 1), (8, .ifCond .eq 7, 3), (11, .iload_n 3, 1), (12, .goto 14, 3), (15, .aload_n 0, 1), (16, .aload_n 0, 1), (17, .getfield 46, 3), (20, .iload_n 1, 1), (21, .aaload, 1), (22, .iload_n 2, 1), (23, .invokevirtual 359, 3), (26, .ireturn, 1)]
theorem tk_s_seasons : ∀ q ∈ tb_s_seasons, decode M_s_seasons.2.1 q.1 = .ok q.2 := by decide +kernel
theorem p_s_seasons {G : ab_G} {S : ab_S} {im : Nat → Prop} {a b : Nat → Int32} {c bh nb st st2 u : Nat} (h : kBd S im a c b bh nb st st2 u) (ht : sdE S 55 (rowT a)) (hu : u + 64 < 2 ^ 20) (hT : ∀ t, t < 4 → sI S (109 + 2 * t) 2 = -1 ∨ ∃ m, m ≤ 40 ∧ sI S (109 + 2 * t) 2 = nI m) (e p : Int32) : ab_C G 7 M_s_seasons [.ref 50, .int e, .int p] (sw S) (fun v w' => pAs S im a c bh nb u 0 0 (some (.int (if cNf S (aR a) e p = 0 then (nI (aSo a (sJ S (110 + 2 * cN e)) (cN (sI S (109 + 2 * cN e) 2)) (cN p))) else cNf S (aR a) e p))) v w') := by
  refine x_enter [some (.ref 50), some (.int e), some (.int p), none] (by decide) (Nat.le_of_ble_eq_true rfl) rfl (fun v w' h => by obtain ⟨rfl, -⟩ := h; rfl) ?_
  have hbh := h.bh.1
  have h0 := h
  obtain ⟨hx, hse, kc, ⟨him, hil, h145⟩, ha, hc, ⟨hb1, hb2, hcl, hnb⟩, hcl9, -, hid, -, hu1, hu2⟩ := h0
  have h40 : sI S 55 3 = a 40 := ht.2.2.2.1.trans ha.1.m40.1.symm
  have hca := hcl.1.sta hb2.sy
  obtain ⟨hk, c1, -⟩ := hca
  have hR := ha.1.R.2
  have h50 : 50 ≤ sn S := by omega
  obtain ⟨hq0, hw0, hE0⟩ := rowT_in ha.1
  have hw6 : aW a < 625 := by have := p5_6 hR; omega
  have hq24 := Nat.lt_of_lt_of_le hq0 (kFc_le (aR a))
  refine x_aload_n 1 0 (ab_dd tk_s_seasons 0 rfl) rfl rfl rfl ?_
  refine x_iload_n 2 1 (ab_dd tk_s_seasons 1 rfl) rfl rfl rfl ?_
  refine x_iload_n 3 2 (ab_dd tk_s_seasons 2 rfl) rfl rfl rfl ?_
  refine t_callV 6 M_s_refusedFelt 1 2 [_, _] (ab_dd tk_s_seasons 3 rfl) rfl (by first | decide | omega) K_s_refusedFelt V_s_refusedFelt.1 V_s_refusedFelt.2 L_s_356 rfl (Nat.le_of_ble_eq_true rfl) (by decide) (Nat.lt_of_lt_of_le (by decide) hx.1) (hx.2.1 0 (by decide)) rfl (b_s_refusedFelt h ht hT e p) (fun v1 w1 h1 => ?_)
  obtain ⟨rfl, rfl⟩ := h1
  refine x_istore_n 7 [some (.ref 50), some (.int e), some (.int p), some (.int (cNf S (aR a) e p))] 3 (ab_dd tk_s_seasons 4 rfl) rfl rfl (by decide) rfl ?_
  refine x_iload_n 8 3 (ab_dd tk_s_seasons 5 rfl) rfl rfl rfl ?_
  refine x_if_eq 11 15 (ab_dd tk_s_seasons 6 rfl) rfl (by decide) (fun h8 => ?_) (fun h8 => ?_)
  · have h00 := cNf_0 h8
    obtain ⟨q, hq, ekq, enq⟩ := in_get (n := 3) (by decide) h00.1.1
    obtain ⟨r, ekr, enr⟩ : ∃ r, p = nI r ∧ cN p = r := ⟨cN p, nI_cN h00.1.2.1, rfl⟩
    have hrR : r < aR a := by rw [← enr]; exact h00.1.2.2
    have hr4 : r < 4 := by omega
    obtain ⟨m, hm40, hm⟩ : ∃ m, m ≤ 40 ∧ sI S (109 + 2 * q) 2 = nI m := by
      rcases hT q (by omega) with z | z
      · exact absurd z (by rw [← enq]; exact h00.2)
      · exact z
    rw [if_pos h8, enq, enr, hm, cN_nI (by omega), show some (Value.int e) = some (Value.int (nI q)) by rw [ekq], show some (Value.int p) = some (Value.int (nI r)) by rw [ekr]]
    refine x_aload_n 16 0 (ab_dd tk_s_seasons 9 rfl) rfl rfl rfl ?_
    refine x_aload_n 17 0 (ab_dd tk_s_seasons 10 rfl) rfl rfl rfl ?_
    refine t_getP 20 69 (ab_dd tk_s_seasons 11 rfl) rfl F_s_46 (by decide) (Nat.lt_of_lt_of_le (by decide) hx.1) (hx.2.1 0 (by decide)) rfl (hx.2.2 (50, 7, 69) (by decide)) ?_
    refine x_iload_n 21 1 (ab_dd tk_s_seasons 12 rfl) rfl rfl rfl ?_
    refine t_aaldP 22 4 q (109 + 2 * q) (ab_dd tk_s_seasons 13 rfl) rfl (by decide) (Nat.lt_of_lt_of_le (by decide) hx.1) rfl (hx.2.1 19 (by decide)) rfl (by omega) (by decide) (x_69 hx (by omega)) ?_
    refine x_iload_n 23 2 (ab_dd tk_s_seasons 14 rfl) rfl rfl rfl ?_
    refine t_callV 26 M_s_seasonsFelt 5 2 [_, _] (ab_dd tk_s_seasons 15 rfl) rfl (by first | decide | omega) K_s_seasonsFelt V_s_seasonsFelt.1 V_s_seasonsFelt.2 L_s_359 rfl (Nat.le_of_ble_eq_true rfl) (by decide) (Nat.lt_of_lt_of_le (by decide) hx.1) (hx.2.1 0 (by decide)) rfl (b_s_seasonsFelt h ht (by omega) (show q < 4 by omega) hm40 hm r hr4) (fun v1 w1 h1 => ?_)
    obtain ⟨rfl, S1, s1, rfl, hE1, hB1, hn1⟩ := h1
    have hx1 : xSh S1 := hB1.1
    exact x_iret (ab_dd tk_s_seasons 16 rfl) ⟨rfl, S1, b, st, s1, rfl, fAs.of (gF.sE hE1) (by omega) (fun y _ z => by simp only [List.mem_cons, List.not_mem_nil, or_false] at z; omega) (by omega), gA.sE hE1, hB1.up (by omega), hn1⟩
  · refine x_iload_n 12 3 (ab_dd tk_s_seasons 7 rfl) rfl rfl rfl ?_
    refine x_goto 26 (ab_dd tk_s_seasons 8 rfl) (by decide) ?_
    rw [if_neg h8]
    exact x_iret (ab_dd tk_s_seasons 16 rfl) ⟨rfl, S, b, st, st2, rfl, fAs.rf, gA.rf, h.up (by omega), ht⟩
theorem aMon_E {a : Nat → Int32} (ha : aOk a) {n : Nat} (hn : n < 10) : aOk (up1 a 40 (nI n)) ∧ sta a (up1 a 40 (nI n)) ∧ aE (up1 a 40 (nI n)) = aE a ∧ seaC (up1 a 40 (nI n)) = seaC a := by
  have ho := aMon_ok ha hn
  have hs : sta a (up1 a 40 (nI n)) := sta.up (by omega) (by omega)
  refine ⟨ho, hs, ?_, c4_cg (fun i hi => by rw [up1_o (by omega)])⟩
  have hR := ha.R.2
  have hRe := hs.R
  obtain ⟨h1, h2, h3⟩ := rowT_in ho
  obtain ⟨g1, g2, g3⟩ := rowT_in ha
  rw [hRe] at h1 h2 h3
  have e1 : aW (up1 a 40 (nI n)) = aW a := by
    refine wa_inj hR h2 g2 (fun i hi => ?_)
    have z1 := row_wa ho (r := i) (by rw [hRe]; exact hi)
    rw [up1_o (by omega), row_wa ha hi] at z1
    have l1 : mWa (aW a) i < 5 := Nat.mod_lt _ (by decide)
    have l2 : mWa (aW (up1 a 40 (nI n))) i < 5 := Nat.mod_lt _ (by decide)
    exact ((nI_eq (by omega) (by omega)).mp z1).symm
  have e2 : aQ (up1 a 40 (nI n)) = aQ a := by
    refine seat_1 hR h1 g1 (fun i hi => ?_)
    have z1 := row_se ho (r := i) (by rw [hRe]; exact hi)
    rw [up1_o (by omega), row_se ha hi] at z1
    have l1 := ((qB1_ok hR g1).2.2.2.2.1 i hi).2.2
    have l2 := ((qB1_ok hR h1).2.2.2.2.1 i hi).2.2
    exact ((nI_eq (by omega) (by omega)).mp z1).symm
  rw [h3, e1, e2, g3]
theorem aMon_I {a : Nat → Int32} (ha : aOk a) {n : Nat} (hn : n < 10) (k : Nat) : aI (up1 a 40 (nI n)) (nI n) k = aI a (nI n) k := by
  obtain ⟨ho, hs, hE, -⟩ := aMon_E ha hn
  have h1 := hs.wl
  have h2 : mSea (rwS (up1 a 40 (nI n))) = mSea (rwS a) := by
    funext r
    show (if r < 4 then up1 a 40 (nI n) (28 + r) else 0) = (if r < 4 then a (28 + r) else 0)
    by_cases z : r < 4
    · rw [if_pos z, if_pos z, up1_o (by omega)]
    · rw [if_neg z, if_neg z]
  have h3 : mCls (rwS (up1 a 40 (nI n))) = mCls (rwS a) := by
    funext r
    show (if r < 4 then up1 a 40 (nI n) (8 + r) else 0) = (if r < 4 then a (8 + r) else 0)
    by_cases z : r < 4
    · rw [if_pos z, if_pos z, up1_o (by omega)]
    · rw [if_neg z, if_neg z]
  unfold aI
  rw [hs.R, h1, h2, h3, hE]
def tb_s_months : List (Nat × Instr × Nat) := [(0, .aload_n 0, 1), (1, .iload_n 1, 1), (2, .iload_n 2, 1), (3, .invokevirtual 356, 3), (6, .istore_n 3, 1), (7, .iload_n 3, 1), (8, .ifCond .eq 5, 3), (11, .iload_n 3, 1), (12, .ireturn, 1), (13, .iconst 0, 1), (14, .istore 4, 2), (16, .iconst 0, 1), (17, .istore 5, 2), (19, .iload 5, 2), (21, .bipush 10, 2), (23, .if_icmp .ge 48, 3), (26, .aload_n 0, 1), (27, .getfield 81, 3), (30, .aload_n 0, 1), (31, .getfield 27, 3), (34, .getfield 134, 3), (37, .iload 5, 2), (39, .invokevirtual 183, 3), (42, .aload_n 0, 1), (43, .aload_n 0, 1), (44, .getfield 46, 3), (47, .iload_n 1, 1), (48, .aaload, 1), (49, .iload_n 2, 1), (50, .invokevirtual 363, 3), (53, .ifCond .eq 12, 3), (56, .iload 4, 2), (58, .iconst 1, 1), (59, .iload 5, 2), (61, .ishl, 1), (62, .ior, 1), (63, .istore 4, 2), (65, .iinc 5 1, 3), (68, .goto (-49), 3), (71, .iload 4, 2), (73, .ireturn, 1)]
theorem tk_s_months : ∀ q ∈ tb_s_months, decode M_s_months.2.1 q.1 = .ok q.2 := by decide +kernel
theorem p_s_months {G : ab_G} {S : ab_S} {im : Nat → Prop} {a b : Nat → Int32} {c bh nb st st2 u : Nat} (h : kBd S im a c b bh nb st st2 u) (ht : sdE S 55 (rowT a)) (hu : u + 64 < 2 ^ 20) (hT : ∀ t, t < 4 → sI S (109 + 2 * t) 2 = -1 ∨ ∃ m, m ≤ 40 ∧ sI S (109 + 2 * t) 2 = nI m) (e p : Int32) : ab_C G 7 M_s_months [.ref 50, .int e, .int p] (sw S) (fun v w' => pAs S im a c bh nb u 0 0 (some (.int (if cNf S (aR a) e p = 0 then (nI (aMs a (sJ S (110 + 2 * cN e)) (cN (sI S (109 + 2 * cN e) 2)) (cN p))) else cNf S (aR a) e p))) v w') := by
  refine x_enter [some (.ref 50), some (.int e), some (.int p), none, none, none] (by decide) (Nat.le_of_ble_eq_true rfl) rfl (fun v w' h => by obtain ⟨rfl, -⟩ := h; rfl) ?_
  have hbh := h.bh.1
  have h0 := h
  obtain ⟨hx, hse, kc, ⟨him, hil, h145⟩, ha, hc, ⟨hb1, hb2, hcl, hnb⟩, hcl9, -, hid, -, hu1, hu2⟩ := h0
  have h40 : sI S 55 3 = a 40 := ht.2.2.2.1.trans ha.1.m40.1.symm
  have hca := hcl.1.sta hb2.sy
  obtain ⟨hk, c1, -⟩ := hca
  have hR := ha.1.R.2
  have h50 : 50 ≤ sn S := by omega
  obtain ⟨hq0, hw0, hE0⟩ := rowT_in ha.1
  have hw6 : aW a < 625 := by have := p5_6 hR; omega
  have hq24 := Nat.lt_of_lt_of_le hq0 (kFc_le (aR a))
  refine x_aload_n 1 0 (ab_dd tk_s_months 0 rfl) rfl rfl rfl ?_
  refine x_iload_n 2 1 (ab_dd tk_s_months 1 rfl) rfl rfl rfl ?_
  refine x_iload_n 3 2 (ab_dd tk_s_months 2 rfl) rfl rfl rfl ?_
  refine t_callV 6 M_s_refusedFelt 1 2 [_, _] (ab_dd tk_s_months 3 rfl) rfl (by first | decide | omega) K_s_refusedFelt V_s_refusedFelt.1 V_s_refusedFelt.2 L_s_356 rfl (Nat.le_of_ble_eq_true rfl) (by decide) (Nat.lt_of_lt_of_le (by decide) hx.1) (hx.2.1 0 (by decide)) rfl (b_s_refusedFelt h ht hT e p) (fun v1 w1 h1 => ?_)
  obtain ⟨rfl, rfl⟩ := h1
  refine x_istore_n 7 [some (.ref 50), some (.int e), some (.int p), some (.int (cNf S (aR a) e p)), none, none] 3 (ab_dd tk_s_months 4 rfl) rfl rfl (by decide) rfl ?_
  refine x_iload_n 8 3 (ab_dd tk_s_months 5 rfl) rfl rfl rfl ?_
  refine x_if_eq 11 13 (ab_dd tk_s_months 6 rfl) rfl (by decide) (fun h8 => ?_) (fun h8 => ?_)
  · have h00 := cNf_0 h8
    obtain ⟨q, hq, ekq, enq⟩ := in_get (n := 3) (by decide) h00.1.1
    obtain ⟨r, ekr, enr⟩ : ∃ r, p = nI r ∧ cN p = r := ⟨cN p, nI_cN h00.1.2.1, rfl⟩
    have hrR : r < aR a := by rw [← enr]; exact h00.1.2.2
    have hr4 : r < 4 := by omega
    obtain ⟨m, hm40, hm⟩ : ∃ m, m ≤ 40 ∧ sI S (109 + 2 * q) 2 = nI m := by
      rcases hT q (by omega) with z | z
      · exact absurd z (by rw [← enq]; exact h00.2)
      · exact z
    rw [if_pos h8, enq, enr, hm, cN_nI (by omega), show some (Value.int e) = some (Value.int (nI q)) by rw [ekq], show some (Value.int p) = some (Value.int (nI r)) by rw [ekr]]
    refine x_iconst 14 0 (ab_dd tk_s_months 9 rfl) rfl (by decide) (x_topn 0 rfl ?_)
    refine x_istore 16 [some (.ref 50), some (.int (nI q)), some (.int (nI r)), some (.int (cNf S (aR a) e p)), some (.int (nI 0)), none] 4 (ab_dd tk_s_months 10 rfl) rfl (by decide) rfl ?_
    refine x_iconst 17 0 (ab_dd tk_s_months 11 rfl) rfl (by decide) (x_topn 0 rfl ?_)
    refine x_istore 19 [some (.ref 50), some (.int (nI q)), some (.int (nI r)), some (.int (cNf S (aR a) e p)), some (.int (nI 0)), some (.int (nI 0))] 5 (ab_dd tk_s_months 12 rfl) rfl (by decide) rfl ?_
    have loop : ∀ (y3 : Int32) (n k : Nat), k + n = 10 → ∀ (S2 : ab_S) (s2 : Nat), sEq [94, 98, 99, 101, 102, 103] S S2 → kBd S2 im a c b bh nb st s2 (u + k) → sdE S2 55 (rowT a) → ab_Ex G 7 M_s_months 19 [some (.ref 50), some (.int (nI q)), some (.int (nI r)), some (.int y3), some (.int (nI (mQ (fun s => decide (aFl a (sJ S (110 + 2 * q)) m (nI s) r)) k))), some (.int (nI k))] [] (sw S2) (fun v w' => pAs S im a c bh nb u 0 0 (some (.int (nI (aMs a (sJ S (110 + 2 * q)) m r)))) v w') := by
      intro y3 n
      induction n with
      | zero =>
        intro k hkm S2 s2 hE2 hB2 hn2
        have hkq : k = 10 := by omega
        rw [hkq] at hB2 ⊢
        refine x_iload 21 5 (ab_dd tk_s_months 13 rfl) rfl rfl ?_
        refine x_bipush 23 10 (ab_dd tk_s_months 14 rfl) rfl (by decide) (x_topn 10 rfl ?_)
        refine x_icmp_ge_t 71 (ab_dd tk_s_months 15 rfl) (by decide) (by decide) ?_
        refine x_iload 73 4 (ab_dd tk_s_months 39 rfl) rfl rfl ?_
        exact x_iret (ab_dd tk_s_months 40 rfl) ⟨rfl, S2, b, st, s2, rfl, fAs.of (gF.sE hE2) (by omega) (fun y _ z => by simp only [List.mem_cons, List.not_mem_nil, or_false] at z; omega) (by omega), gA.sE hE2, hB2.up (by omega), hn2⟩
      | succ n ih =>
        intro k hkm S2 s2 hE2 hB2 hn2
        have hx2 : xSh S2 := hB2.1
        have hqk := mQ_lt (fun s => decide (aFl a (sJ S (110 + 2 * q)) m (nI s) r)) k
        have hp16 : 2 ^ k ≤ 512 := (show ∀ k, k < 10 → 2 ^ k ≤ 512 by decide) k (by omega)
        obtain ⟨k1, k2, k3, k4⟩ := aMon_E ha.1 (show k < 10 by omega)
        have h552 : sI S2 55 0 = nI (seaC (up1 a 40 (nI k))) := by rw [k4]; exact hn2.1
        have e40 : up1 a 40 (nI k) 40 = nI k := up1_s
        refine x_iload 21 5 (ab_dd tk_s_months 13 rfl) rfl rfl ?_
        refine x_bipush 23 10 (ab_dd tk_s_months 14 rfl) rfl (by decide) (x_topn 10 rfl ?_)
        refine x_icmp_ge_f 26 (ab_dd tk_s_months 15 rfl) rfl 71 (by decide) (fun z => absurd ((nI_leI (a := 10) (b := k) (by omega) (by omega)).mp z) (show ¬ (10 ≤ k) by omega)) ?_
        refine x_aload_n 27 0 (ab_dd tk_s_months 16 rfl) rfl rfl rfl ?_
        refine t_getP 30 94 (ab_dd tk_s_months 17 rfl) rfl F_s_81 (by decide) (Nat.lt_of_lt_of_le (by decide) hx2.1) (hx2.2.1 0 (by decide)) rfl (hx2.2.2 (50, 13, 94) (by decide)) ?_
        refine x_aload_n 31 0 (ab_dd tk_s_months 18 rfl) rfl rfl rfl ?_
        refine t_getP 34 55 (ab_dd tk_s_months 19 rfl) rfl F_s_27 (by decide) (Nat.lt_of_lt_of_le (by decide) hx2.1) (hx2.2.1 0 (by decide)) rfl (hx2.2.2 (50, 3, 55) (by decide)) ?_
        refine t_getI 37 (ab_dd tk_s_months 20 rfl) rfl F_s_134 (by decide) (Nat.lt_of_lt_of_le (by decide) hx2.1) (hx2.2.1 5 (by decide)) rfl (x_topn (seaC (up1 a 40 (nI k))) h552 ?_)
        refine x_iload 39 5 (ab_dd tk_s_months 21 rfl) rfl rfl ?_
        have hsp := b_supp (G := G) hB2 hn2 (by omega) k1 k2
        rw [e40] at hsp
        refine t_callV 42 M_cl_suppose 0 2 [_, _] (ab_dd tk_s_months 22 rfl) rfl (by first | decide | omega) K_cl_suppose V_cl_suppose.1 V_cl_suppose.2 L_s_183 rfl (Nat.le_of_ble_eq_true rfl) (by decide) (Nat.lt_of_lt_of_le (by decide) hx2.1) (hx2.2.1 44 (by decide)) rfl (hsp) (fun v1 w1 h1 => ?_)
        obtain ⟨rfl, S3, s3, rfl, hE3, hcl3, hB3, hn3⟩ := h1
        have hx3 : xSh S3 := hB3.1
        have hE23 : sEq [94, 98, 99, 101, 102, 103] S S3 := hE2.tr (hE3.mono (fun y hy => by simp only [List.mem_cons, List.not_mem_nil, or_false] at hy ⊢; omega))
        have hm3 : sI S3 (109 + 2 * q) 2 = nI m := (congrFun (hE23.2.2.1 _ (by simp only [List.mem_cons, List.not_mem_nil, or_false, not_or]; omega)) 2).trans hm
        have eJ3 : sJ S3 (110 + 2 * q) = sJ S (110 + 2 * q) := hE23.2.2.2.1 _ (by simp only [List.mem_cons, List.not_mem_nil, or_false, not_or]; omega)
        refine x_aload_n 43 0 (ab_dd tk_s_months 23 rfl) rfl rfl rfl ?_
        refine x_aload_n 44 0 (ab_dd tk_s_months 24 rfl) rfl rfl rfl ?_
        refine t_getP 47 69 (ab_dd tk_s_months 25 rfl) rfl F_s_46 (by decide) (Nat.lt_of_lt_of_le (by decide) hx3.1) (hx3.2.1 0 (by decide)) rfl (hx3.2.2 (50, 7, 69) (by decide)) ?_
        refine x_iload_n 48 1 (ab_dd tk_s_months 26 rfl) rfl rfl rfl ?_
        refine t_aaldP 49 4 q (109 + 2 * q) (ab_dd tk_s_months 27 rfl) rfl (by decide) (Nat.lt_of_lt_of_le (by decide) hx3.1) rfl (hx3.2.1 19 (by decide)) rfl (by omega) (by decide) (x_69 hx3 (by omega)) ?_
        refine x_iload_n 50 2 (ab_dd tk_s_months 28 rfl) rfl rfl rfl ?_
        have hft := b_s_isFelt (G := G) hB3 hn3 hcl3 k1 k2 k3 (show q < 4 by omega) hm40 hm3 r hr4
        rw [eJ3, e40] at hft
        have efl : aFl (up1 a 40 (nI k)) (sJ S (110 + 2 * q)) m (nI k) r ↔ aFl a (sJ S (110 + 2 * q)) m (nI k) r := by
          unfold aFl
          simp only [aMon_I ha.1 (show k < 10 by omega)]
        have hft2 := hft.mono (Q' := fun v w' => v = some (.int (if aFl a (sJ S (110 + 2 * q)) m (nI k) r then 1 else 0)) ∧ _) (fun v w' z => ⟨z.1.trans (by simp only [efl]), z.2⟩)
        refine t_callV 53 M_s_isFelt 4 2 [_, _] (ab_dd tk_s_months 29 rfl) rfl (by first | decide | omega) K_s_isFelt V_s_isFelt.1 V_s_isFelt.2 L_s_363 rfl (Nat.le_of_ble_eq_true rfl) (by decide) (Nat.lt_of_lt_of_le (by decide) hx3.1) (hx3.2.1 0 (by decide)) rfl (hft2) (fun v1 w1 h1 => ?_)
        obtain ⟨rfl, S4, rfl, hE4, hcl4, hB4, hn4⟩ := h1
        have hx4 : xSh S4 := hB4.1
        have hE24 : sEq [94, 98, 99, 101, 102, 103] S S4 := hE23.tr (hE4.mono (fun y hy => by simp only [List.mem_cons, List.not_mem_nil, or_false] at hy ⊢; omega))
        refine xb_if_eq 56 65 (ab_dd tk_s_months 30 rfl) rfl (by decide) (fun h53 => ?_) (fun h53 => ?_)
        · refine xn_iinc 68 5 (fun y => [some (.ref 50), some (.int (nI q)), some (.int (nI r)), some (.int y3), some (.int (nI (mQ (fun s => decide (aFl a (sJ S (110 + 2 * q)) m (nI s) r)) k))), some (.int y)]) (k + 1) (ab_dd tk_s_months 37 rfl) rfl (by decide) rfl (fun _ => rfl) (iinc_p 1) ?_
          refine x_goto 19 (ab_dd tk_s_months 38 rfl) (by decide) ?_
          have hI := ih (k + 1) (by omega) S4 s3 hE24 hB4 hn4
          rw [show mQ (fun s => decide (aFl a (sJ S (110 + 2 * q)) m (nI s) r)) (k + 1) = mQ (fun s => decide (aFl a (sJ S (110 + 2 * q)) m (nI s) r)) k from by show mQ (fun s => decide (aFl a (sJ S (110 + 2 * q)) m (nI s) r)) k + (if decide _ = true then _ else 0) = _; rw [if_neg (by rw [decide_eq_true_iff]; exact h53), Nat.add_zero]] at hI
          exact hI
        · refine x_iload 58 4 (ab_dd tk_s_months 31 rfl) rfl rfl ?_
          refine x_iconst 59 1 (ab_dd tk_s_months 32 rfl) rfl (by decide) (x_topn 1 rfl ?_)
          refine x_iload 61 5 (ab_dd tk_s_months 33 rfl) rfl rfl ?_
          refine x_ishl 62 (ab_dd tk_s_months 34 rfl) rfl ?_
          refine x_ior 63 (ab_dd tk_s_months 35 rfl) rfl (x_topn (mQ (fun s => decide (aFl a (sJ S (110 + 2 * q)) m (nI s) r)) k + 2 ^ k) (or_N (by omega) hqk) ?_)
          refine x_istore 65 [some (.ref 50), some (.int (nI q)), some (.int (nI r)), some (.int y3), some (.int (nI (mQ (fun s => decide (aFl a (sJ S (110 + 2 * q)) m (nI s) r)) k + 2 ^ k))), some (.int (nI k))] 4 (ab_dd tk_s_months 36 rfl) rfl (by decide) rfl ?_
          refine xn_iinc 68 5 (fun y => [some (.ref 50), some (.int (nI q)), some (.int (nI r)), some (.int y3), some (.int (nI (mQ (fun s => decide (aFl a (sJ S (110 + 2 * q)) m (nI s) r)) k + 2 ^ k))), some (.int y)]) (k + 1) (ab_dd tk_s_months 37 rfl) rfl (by decide) rfl (fun _ => rfl) (iinc_p 1) ?_
          refine x_goto 19 (ab_dd tk_s_months 38 rfl) (by decide) ?_
          have hI := ih (k + 1) (by omega) S4 s3 hE24 hB4 hn4
          rw [show mQ (fun s => decide (aFl a (sJ S (110 + 2 * q)) m (nI s) r)) (k + 1) = mQ (fun s => decide (aFl a (sJ S (110 + 2 * q)) m (nI s) r)) k + 2 ^ k from by show mQ (fun s => decide (aFl a (sJ S (110 + 2 * q)) m (nI s) r)) k + (if decide _ = true then _ else 0) = _; rw [if_pos (by rw [decide_eq_true_iff]; exact h53)]] at hI
          exact hI
    exact loop _ 10 0 (by omega) S st2 sEq.rf h ht
  · refine x_iload_n 12 3 (ab_dd tk_s_months 7 rfl) rfl rfl rfl ?_
    rw [if_neg h8]
    exact x_iret (ab_dd tk_s_months 8 rfl) ⟨rfl, S, b, st, st2, rfl, fAs.rf, gA.rf, h.up (by omega), ht⟩
