/-! ===== image, restore ===== -/
theorem kBd.p70 {S : ab_S} {im : Nat → Prop} {a b : Nat → Int32} {c bh nb st st2 u k : Nat} {v : Option Nat} (h : kBd S im a c b bh nb st st2 u) : kBd (pP S 70 k v) im a c b bh nb st st2 u := by
  obtain ⟨q1, q2⟩ := h.bh
  have h0 := h
  obtain ⟨x1, x2, x3, ⟨x4, x5, x6⟩, x7, x8, ⟨x9, x10, x11, x12⟩, x13, -, ⟨ca, la, x16⟩, -, x18, x19⟩ := h0
  have g : gF (fun y => y = 70) S (pP S 70 k v) := gF.rf.pP rfl
  have hi : ∀ y, im y → ¬ (fun y => y = 70) y := fun y z w => by have := x4 y z; have w : y = 70 := w; omega
  exact h.step g (x1.rR (by decide +kernel)) (fun y z => by have z : y = 70 := z; omega) x7 sta.rf x9 x10 (x11.gf g (by omega) hi (by decide) (by omega) (by decide) (by decide)) (kpX.of rfl) (Nat.le_refl _) (x13.gf g (by omega) hi (by decide) (by decide) (by decide) (by decide)) rfl ⟨ca, la, x16⟩ (Nat.le_refl _) x18 x19
theorem gA.bd {S S' : ab_S} {im l : Nat → Prop} {a b a1 b1 : Nat → Int32} {c bh nb st st2 u d bh' nb' st' st2' u' : Nat} (h : kBd S im a c b bh nb st st2 u) (h' : kBd S' im a1 d b1 bh' nb' st' st2' u') (g : gF l S S') (e1 : sP S' 50 15 = sP S 50 15) (e2 : sP S' 50 16 = sP S 50 16) (hc : (nb' = nb ∧ sn S' = sn S ∧ sz S' = sz S) ∨ (nb < nb' ∧ sn S' = sn S + 1 ∧ sz S' = sz S + nb')) : gA S S' 0 0 := by
  obtain ⟨x1, x2, x3, ⟨x4, x5, x6⟩, x7, x8, ⟨x9, x10, x11, x12⟩, x13, ⟨x14, x15⟩, x16, x17, x18, x19⟩ := h
  obtain ⟨-, -, -, -, -, -, ⟨-, -, y11, y12⟩, -⟩ := h'
  have eR : szL S' (sP S' 50 15) 1 = szL S (sP S 50 15) 1 := by
    rw [e1]
    refine szL.kp (fun q e => g.2.2.1 _ ?_)
    rcases x17 with ⟨y2, -⟩ | ⟨r0, N0, kn, rs, b1, p, hi, hb, hK, -⟩
    · rw [y2] at e; cases e
    · rw [p] at e
      have := Option.some.inj e
      have := hK.2.1
      omega
  have eF : szL S' (sP S' 50 16) 3 = szL S (sP S 50 16) 3 := by
    rw [e2]
    refine szL.kp (fun q e => g.2.2.1 _ ?_)
    rcases x17 with ⟨-, y2⟩ | ⟨r0, N0, kn, rs, b1, p, hi, hb, hK, hz0, hs, k1, k2, r1, r2, h90, hI, hF⟩
    · rw [y2] at e; cases e
    · rcases hF with hF | ⟨F, M, pF, hiF, hbF, hrF, hKF, -⟩
      · rw [hF] at e; cases e
      · rw [pF] at e
        have := Option.some.inj e
        have := hKF.2.1
        omega
  have eB : szL S (sP S 84 6) 0 = nb := by
    unfold szL
    rw [x11.2.2.2.2.2.2.1]
    show (match sK S (bh + 0) with | .inl (_, N) => N | .inr _ => 0) = nb
    rw [Nat.add_zero, x11.2.2.2.2.2.2.2.2.1]
  have eB' : szL S' (sP S' 84 6) 0 = nb' := by
    unfold szL
    rw [y11.2.2.2.2.2.2.1]
    show (match sK S' (bh' + 0) with | .inl (_, N) => N | .inr _ => 0) = nb'
    rw [Nat.add_zero, y11.2.2.2.2.2.2.2.2.1]
  unfold gA cA zA
  rw [eR, eF, eB, eB']
  rcases hc with ⟨z1, z2, z3⟩ | ⟨z1, z2, z3⟩
  · rw [z1]; omega
  · have hv := lvl_lt y12 z1
    have hs := y12.cs
    omega
theorem lt2_le1 {x : Int32} (h : x < 2) : x ≤ 1 := by
  rw [Int32.lt_iff_toInt_lt] at h
  rw [Int32.le_iff_toInt_le]
  have e : (2 : Int32).toInt = 2 := by decide
  have e2 : (1 : Int32).toInt = 1 := by decide
  omega
theorem le1_lt2 {x : Int32} (h : x ≤ 1) : x < 2 := by
  rw [Int32.le_iff_toInt_le] at h
  rw [Int32.lt_iff_toInt_lt]
  have e : (2 : Int32).toInt = 2 := by decide
  have e2 : (1 : Int32).toInt = 1 := by decide
  omega
def tb_s_image : List (Nat × Instr × Nat) := [(0, .iload_n 1, 1), (1, .ifCond .lt 8, 3), (4, .iload_n 1, 1), (5, .iconst 2, 1), (6, .if_icmp .lt 6, 3), (9, .bipush (-2), 2), (11, .ireturn, 1), (12, .aload_n 0, 1), (13, .getfield 50, 3), (16, .iload_n 1, 1), (17, .aload_n 0, 1), (18, .getfield 20, 3), (21, .aastore, 1), (22, .aload_n 0, 1), (23, .getfield 54, 3), (26, .iload_n 1, 1), (27, .aaload, 1), (28, .aload_n 0, 1), (29, .getfield 27, 3), (32, .invokevirtual 217, 3), (35, .iconst 0, 1), (36, .ireturn, 1)]
theorem tk_s_image : ∀ q ∈ tb_s_image, decode M_s_image.2.1 q.1 = .ok q.2 := by decide +kernel
theorem p_s_image {G : ab_G} {S : ab_S} {im : Nat → Prop} {a b : Nat → Int32} {c bh nb st st2 u : Nat} (h : kBd S im a c b bh nb st st2 u) (ht : sdE S 55 (rowT a)) (hu : u + 64 < 2 ^ 20) (e : Int32) : ab_C G 7 M_s_image [.ref 50, .int e] (sw S) (fun v w' => (¬ (0 ≤ e ∧ e ≤ 1) ∧ pAs S im a c bh nb u 0 0 (some (.int (-2))) v w') ∨ ((0 ≤ e ∧ e ≤ 1) ∧ v = some (.int 0) ∧ ∃ S', w' = sw S' ∧ gF (fun y => y = 70 ∨ y = 117 + cN e) S S' ∧ sn S' = sn S ∧ sz S' = sz S ∧ sP S' 70 (cN e) = some c ∧ (∀ k, k ≠ cN e → sP S' 70 k = sP S 70 k) ∧ sdE S' (117 + cN e) (rowT a) ∧ kBd S' im a c b bh nb st st2 u ∧ sdE S' 55 (rowT a))) := by
  refine x_enter [some (.ref 50), some (.int e)] (by decide) (Nat.le_of_ble_eq_true rfl) rfl (fun v w' h => by rcases h with ⟨-, rfl, -⟩ | ⟨-, rfl, -⟩ <;> rfl) ?_
  have hbh := h.bh.1
  have h0 := h
  obtain ⟨hx, hse, kc, ⟨him, hil, h145⟩, ha, hc, ⟨hb1, hb2, hcl, hnb⟩, hcl9, -, hid, -, hu1, hu2⟩ := h0
  have h40 : sI S 55 3 = a 40 := ht.2.2.2.1.trans ha.1.m40.1.symm
  have hca := hcl.1.sta hb2.sy
  obtain ⟨hk, c1, -⟩ := hca
  have hR := ha.1.R.2
  have h50 : 50 ≤ sn S := by omega
  obtain ⟨hq0, hw0, hE0⟩ := rowT_in ha.1
  have hw6 : aW a < 625 := by have := p5_6 hR; omega
  have hq24 := Nat.lt_of_lt_of_le hq0 (kFc_le (aR a))
  refine x_iload_n 1 1 (ab_dd tk_s_image 0 rfl) rfl rfl rfl ?_
  refine x_if_lt 4 9 (ab_dd tk_s_image 1 rfl) rfl (by decide) (fun h1 => ?_) (fun h1 => ?_)
  · refine x_bipush 11 (-2) (ab_dd tk_s_image 5 rfl) rfl (by decide) ?_
    exact x_iret (ab_dd tk_s_image 6 rfl) (Or.inl ⟨fun z => absurd h1 (Int32.not_lt.mpr z.1), ⟨rfl, S, b, st, st2, rfl, fAs.rf, gA.rf, h.up (by omega), ht⟩⟩)
  · refine x_iload_n 5 1 (ab_dd tk_s_image 2 rfl) rfl rfl rfl ?_
    refine x_iconst 6 2 (ab_dd tk_s_image 3 rfl) rfl (by decide) (x_topn 2 rfl ?_)
    refine x_icmp_lt 9 12 (ab_dd tk_s_image 4 rfl) rfl (by decide) (fun h6 => ?_) (fun h6 => ?_)
    · have hdd : 0 ≤ e ∧ e ≤ 1 := ⟨Int32.not_lt.mp h1, lt2_le1 h6⟩
      obtain ⟨q, hq, ekq, enq⟩ := in_get (n := 1) (by decide) hdd
      rw [show some (Value.int e) = some (Value.int (nI q)) by rw [ekq], enq]
      refine x_aload_n 13 0 (ab_dd tk_s_image 7 rfl) rfl rfl rfl ?_
      refine t_getP 16 70 (ab_dd tk_s_image 8 rfl) rfl F_s_50 (by decide) (Nat.lt_of_lt_of_le (by decide) hx.1) (hx.2.1 0 (by decide)) rfl (hx.2.2 (50, 8, 70) (by decide)) ?_
      refine x_iload_n 17 1 (ab_dd tk_s_image 9 rfl) rfl rfl rfl ?_
      refine x_aload_n 18 0 (ab_dd tk_s_image 10 rfl) rfl rfl rfl ?_
      refine t_getP 21 c (ab_dd tk_s_image 11 rfl) rfl F_s_20 (by decide) (Nat.lt_of_lt_of_le (by decide) hx.1) (hx.2.1 0 (by decide)) rfl hc ?_
      refine t_aast 22 5 q (ab_dd tk_s_image 12 rfl) rfl (by decide) (Nat.lt_of_lt_of_le (by decide) hx.1) rfl (hx.2.1 20 (by decide)) hk.1 (Nat.lt_of_le_of_lt (Nat.le_add_right c 2) hk.2.1) hk.2.2.1 rfl rfl (by omega) (by decide) ?_
      have hBP : kBd (pP S 70 q (some c)) im a c b bh nb st st2 u := h.p70
      have hxP : xSh (pP S 70 q (some c)) := hBP.1
      have hnP : sdE (pP S 70 q (some c)) 55 (rowT a) := ht
      refine x_aload_n 23 0 (ab_dd tk_s_image 13 rfl) rfl rfl rfl ?_
      refine t_getP 26 71 (ab_dd tk_s_image 14 rfl) rfl F_s_54 (by decide) (Nat.lt_of_lt_of_le (by decide) hxP.1) (hxP.2.1 0 (by decide)) rfl (hxP.2.2 (50, 9, 71) (by decide)) ?_
      refine x_iload_n 27 1 (ab_dd tk_s_image 15 rfl) rfl rfl rfl ?_
      refine t_aaldP 28 6 q (117 + q) (ab_dd tk_s_image 16 rfl) rfl (by decide) (Nat.lt_of_lt_of_le (by decide) hxP.1) rfl (hxP.2.1 21 (by decide)) rfl (by omega) (by decide) (x_71 hxP (by omega)) ?_
      refine x_aload_n 29 0 (ab_dd tk_s_image 17 rfl) rfl rfl rfl ?_
      refine t_getP 32 55 (ab_dd tk_s_image 18 rfl) rfl F_s_27 (by decide) (Nat.lt_of_lt_of_le (by decide) hxP.1) (hxP.2.1 0 (by decide)) rfl (hxP.2.2 (50, 3, 55) (by decide)) ?_
      refine t_callV 35 M_sd_copy 0 1 [_] (ab_dd tk_s_image 19 rfl) rfl (by first | decide | omega) K_sd_copy V_sd_copy.1 V_sd_copy.2 L_s_217 rfl (Nat.le_of_ble_eq_true rfl) (by omega) (Nat.lt_of_lt_of_le (show (117 + q) < 120 by omega) hxP.1) (x_117 hxP (by omega)) rfl (c_sd_copy (a := 117 + q) (show sdK (pP S 70 q (some c)) (117 + q) from ⟨by omega, Nat.lt_of_lt_of_le (show 117 + q < 120 by omega) hxP.1, x_117 hxP (by omega)⟩) (show sdK (pP S 70 q (some c)) 55 from x_55 hxP (by decide)) (by omega) hnP) (fun v1 w1 h1 => ?_)
      obtain ⟨rfl, S1, rfl, hE1, ht1⟩ := h1
      have hB1 := hBP.se hE1 (fun y hy => by simp only [List.mem_cons, List.not_mem_nil, or_false] at hy; omega)
      have hx1 : xSh S1 := hB1.1
      have hG1 : gF (fun y => y = 70 ∨ y = 117 + q) S S1 := gF.tr (gF.rf.pP (Or.inl rfl)) ((gF.sE hE1).mono (fun y _ z => Or.inr (List.mem_singleton.mp z)))
      refine x_iconst 36 0 (ab_dd tk_s_image 20 rfl) rfl (by decide) (x_topn 0 rfl ?_)
      exact x_iret (ab_dd tk_s_image 21 rfl) (Or.inr ⟨(by first | exact hdd | (rw [← ekq]; exact hdd)), rfl, S1, rfl, hG1, hE1.2.2.2.2.2.1, hE1.2.2.2.2.2.2, by rw [hE1.2.2.2.2.1]; exact gP_s, fun k z => by rw [hE1.2.2.2.2.1]; exact gP_k z, ht1, hB1, hnP.eq hE1 (by simp only [List.mem_cons, List.not_mem_nil, or_false, not_or]; omega)⟩)
    · refine x_bipush 11 (-2) (ab_dd tk_s_image 5 rfl) rfl (by decide) ?_
      exact x_iret (ab_dd tk_s_image 6 rfl) (Or.inl ⟨fun z => h6 (le1_lt2 z.2), ⟨rfl, S, b, st, st2, rfl, fAs.rf, gA.rf, h.up (by omega), ht⟩⟩)
def tb_s_restore : List (Nat × Instr × Nat) := [(0, .iload_n 1, 1), (1, .ifCond .lt 8, 3), (4, .iload_n 1, 1), (5, .iconst 2, 1), (6, .if_icmp .lt 6, 3), (9, .bipush (-2), 2), (11, .ireturn, 1), (12, .aload_n 0, 1), (13, .getfield 50, 3), (16, .iload_n 1, 1), (17, .aaload, 1), (18, .astore_n 2, 1), (19, .aload_n 2, 1), (20, .ifnonnull 6, 3), (23, .bipush (-5), 2), (25, .ireturn, 1), (26, .aload_n 0, 1), (27, .getfield 27, 3), (30, .aload_n 0, 1), (31, .getfield 54, 3), (34, .iload_n 1, 1), (35, .aaload, 1), (36, .invokevirtual 217, 3), (39, .aload_n 0, 1), (40, .aload_n 2, 1), (41, .invokevirtual 118, 3), (44, .iconst 0, 1), (45, .ireturn, 1)]
theorem tk_s_restore : ∀ q ∈ tb_s_restore, decode M_s_restore.2.1 q.1 = .ok q.2 := by decide +kernel
theorem p_s_restore {G : ab_G} {S : ab_S} {im : Nat → Prop} {a b : Nat → Int32} {c bh nb st st2 u : Nat} (h : kBd S im a c b bh nb st st2 u) (ht : sdE S 55 (rowT a)) (hu : u + 64 < 2 ^ 20) {n s : Nat} {f : Nat → sT} (hp : paI S n s f) (e : Int32) {d : Nat} {a1 : Nat → Int32} (hI : (0 ≤ e ∧ e ≤ 1) → sP S 70 (cN e) = none ∨ (sP S 70 (cN e) = some d ∧ caI S im d a1 ∧ aGood a1 ∧ sdE S (117 + cN e) (rowT a1))) : ab_C G 7 M_s_restore [.ref 50, .int e] (sw S) (fun v w' => (¬ (0 ≤ e ∧ e ≤ 1) ∧ pAs S im a c bh nb u 0 0 (some (.int (-2))) v w') ∨ ((0 ≤ e ∧ e ≤ 1) ∧ sP S 70 (cN e) = none ∧ pAs S im a c bh nb u 0 0 (some (.int (-5))) v w') ∨ ((0 ≤ e ∧ e ≤ 1) ∧ sP S 70 (cN e) = some d ∧ v = some (.int 0) ∧ ∃ S' bh' nb' b1, w' = sw S' ∧ gF (fun y => y = 50 ∨ y = 55 ∨ y = 57 ∨ y = 84 ∨ y = 94) S S' ∧ sI S' 50 = sI S 50 ∧ (∀ k, k ≠ 2 → sP S' 50 k = sP S 50 k) ∧ gA S S' 0 0 ∧ kBd S' im a1 d b1 bh' nb' (st + 1) (st2 + 1) (u + 1) ∧ paI S' n 0 f ∧ sdE S' 55 (rowT a1))) := by
  refine x_enter [some (.ref 50), some (.int e), none] (by decide) (Nat.le_of_ble_eq_true rfl) rfl (fun v w' h => by rcases h with ⟨-, rfl, -⟩ | ⟨-, -, rfl, -⟩ | ⟨-, -, rfl, -⟩ <;> rfl) ?_
  have hbh := h.bh.1
  have h0 := h
  obtain ⟨hx, hse, kc, ⟨him, hil, h145⟩, ha, hc, ⟨hb1, hb2, hcl, hnb⟩, hcl9, -, hid, -, hu1, hu2⟩ := h0
  have h40 : sI S 55 3 = a 40 := ht.2.2.2.1.trans ha.1.m40.1.symm
  have hca := hcl.1.sta hb2.sy
  obtain ⟨hk, c1, -⟩ := hca
  have hR := ha.1.R.2
  have h50 : 50 ≤ sn S := by omega
  obtain ⟨hq0, hw0, hE0⟩ := rowT_in ha.1
  have hw6 : aW a < 625 := by have := p5_6 hR; omega
  have hq24 := Nat.lt_of_lt_of_le hq0 (kFc_le (aR a))
  refine x_iload_n 1 1 (ab_dd tk_s_restore 0 rfl) rfl rfl rfl ?_
  refine x_if_lt 4 9 (ab_dd tk_s_restore 1 rfl) rfl (by decide) (fun h1 => ?_) (fun h1 => ?_)
  · refine x_bipush 11 (-2) (ab_dd tk_s_restore 5 rfl) rfl (by decide) ?_
    exact x_iret (ab_dd tk_s_restore 6 rfl) (Or.inl ⟨fun z => absurd h1 (Int32.not_lt.mpr z.1), ⟨rfl, S, b, st, st2, rfl, fAs.rf, gA.rf, h.up (by omega), ht⟩⟩)
  · refine x_iload_n 5 1 (ab_dd tk_s_restore 2 rfl) rfl rfl rfl ?_
    refine x_iconst 6 2 (ab_dd tk_s_restore 3 rfl) rfl (by decide) (x_topn 2 rfl ?_)
    refine x_icmp_lt 9 12 (ab_dd tk_s_restore 4 rfl) rfl (by decide) (fun h6 => ?_) (fun h6 => ?_)
    · have hdd : 0 ≤ e ∧ e ≤ 1 := ⟨Int32.not_lt.mp h1, lt2_le1 h6⟩
      have hI1 := hI hdd
      obtain ⟨q, hq, ekq, enq⟩ := in_get (n := 1) (by decide) hdd
      rw [enq] at hI1
      rw [show some (Value.int e) = some (Value.int (nI q)) by rw [ekq], enq]
      rcases hI1 with hz | ⟨hz, hca1, hg1, hs1⟩
      · refine x_aload_n 13 0 (ab_dd tk_s_restore 7 rfl) rfl rfl rfl ?_
        refine t_getP 16 70 (ab_dd tk_s_restore 8 rfl) rfl F_s_50 (by decide) (Nat.lt_of_lt_of_le (by decide) hx.1) (hx.2.1 0 (by decide)) rfl (hx.2.2 (50, 8, 70) (by decide)) ?_
        refine x_iload_n 17 1 (ab_dd tk_s_restore 9 rfl) rfl rfl rfl ?_
        refine t_aaldN 18 5 q (ab_dd tk_s_restore 10 rfl) rfl (by decide) (Nat.lt_of_lt_of_le (by decide) hx.1) rfl (hx.2.1 20 (by decide)) rfl (by omega) (by decide) hz ?_
        refine x_astore_nN 19 [some (.ref 50), some (.int (nI q)), some (.null)] 2 (ab_dd tk_s_restore 11 rfl) rfl rfl (by decide) rfl ?_
        refine x_aload_nN 20 2 (ab_dd tk_s_restore 12 rfl) rfl rfl rfl ?_
        refine x_ifnonnull_f 23 (ab_dd tk_s_restore 13 rfl) rfl ?_
        refine x_bipush 25 (-5) (ab_dd tk_s_restore 14 rfl) rfl (by decide) ?_
        exact x_iret (ab_dd tk_s_restore 15 rfl) (Or.inr (Or.inl ⟨(by first | exact hdd | (rw [← ekq]; exact hdd)), hz, ⟨rfl, S, b, st, st2, rfl, fAs.rf, gA.rf, h.up (by omega), ht⟩⟩))
      · refine x_aload_n 13 0 (ab_dd tk_s_restore 7 rfl) rfl rfl rfl ?_
        refine t_getP 16 70 (ab_dd tk_s_restore 8 rfl) rfl F_s_50 (by decide) (Nat.lt_of_lt_of_le (by decide) hx.1) (hx.2.1 0 (by decide)) rfl (hx.2.2 (50, 8, 70) (by decide)) ?_
        refine x_iload_n 17 1 (ab_dd tk_s_restore 9 rfl) rfl rfl rfl ?_
        refine t_aaldP 18 5 q d (ab_dd tk_s_restore 10 rfl) rfl (by decide) (Nat.lt_of_lt_of_le (by decide) hx.1) rfl (hx.2.1 20 (by decide)) rfl (by omega) (by decide) hz ?_
        refine x_astore_n 19 [some (.ref 50), some (.int (nI q)), some (.ref d)] 2 (ab_dd tk_s_restore 11 rfl) rfl rfl (by decide) rfl ?_
        refine x_aload_n 20 2 (ab_dd tk_s_restore 12 rfl) rfl rfl rfl ?_
        refine x_ifnonnull_t 26 (ab_dd tk_s_restore 13 rfl) (by decide) ?_
        refine x_aload_n 27 0 (ab_dd tk_s_restore 16 rfl) rfl rfl rfl ?_
        refine t_getP 30 55 (ab_dd tk_s_restore 17 rfl) rfl F_s_27 (by decide) (Nat.lt_of_lt_of_le (by decide) hx.1) (hx.2.1 0 (by decide)) rfl (hx.2.2 (50, 3, 55) (by decide)) ?_
        refine x_aload_n 31 0 (ab_dd tk_s_restore 18 rfl) rfl rfl rfl ?_
        refine t_getP 34 71 (ab_dd tk_s_restore 19 rfl) rfl F_s_54 (by decide) (Nat.lt_of_lt_of_le (by decide) hx.1) (hx.2.1 0 (by decide)) rfl (hx.2.2 (50, 9, 71) (by decide)) ?_
        refine x_iload_n 35 1 (ab_dd tk_s_restore 20 rfl) rfl rfl rfl ?_
        refine t_aaldP 36 6 q (117 + q) (ab_dd tk_s_restore 21 rfl) rfl (by decide) (Nat.lt_of_lt_of_le (by decide) hx.1) rfl (hx.2.1 21 (by decide)) rfl (by omega) (by decide) (x_71 hx (by omega)) ?_
        refine t_callV 39 M_sd_copy 0 1 [_] (ab_dd tk_s_restore 22 rfl) rfl (by first | decide | omega) K_sd_copy V_sd_copy.1 V_sd_copy.2 L_s_217 rfl (Nat.le_of_ble_eq_true rfl) (by decide) (Nat.lt_of_lt_of_le (by decide) hx.1) (hx.2.1 5 (by decide)) rfl (c_sd_copy (show sdK S 55 from x_55 hx (by decide)) (b := 117 + q) (show sdK S (117 + q) from ⟨by omega, Nat.lt_of_lt_of_le (show 117 + q < 120 by omega) hx.1, x_117 hx (by omega)⟩) (by omega) hs1) (fun v1 w1 h1 => ?_)
        obtain ⟨rfl, S1, rfl, hE1, ht1⟩ := h1
        have hB1 := h.se hE1 (fun y hy => by simp only [List.mem_cons, List.not_mem_nil, or_false] at hy; omega)
        have hx1 : xSh S1 := hB1.1
        have hp1 : paI S1 n s f := hp.eq hE1 (fun y y1 y2 => (by simp only [List.mem_cons, List.not_mem_nil, or_false, not_or]; omega))
        have hcb : caI S1 im d a1 := hca1.im ((gF.sE hE1).im (fun y z w => by have := him y z; have := List.mem_singleton.mp w; omega)) (fun _ z => z)
        obtain ⟨b1, hb1o, hb1s, hb1c, hb13, hb12⟩ := caI_first hcb hg1.1
        refine x_aload_n 40 0 (ab_dd tk_s_restore 23 rfl) rfl rfl rfl ?_
        refine x_aload_n 41 2 (ab_dd tk_s_restore 24 rfl) rfl rfl rfl ?_
        refine t_callV 44 M_s_board 1 1 [_] (ab_dd tk_s_restore 25 rfl) rfl (by first | decide | omega) K_s_board V_s_board.1 V_s_board.2 L_s_118 rfl (Nat.le_of_ble_eq_true rfl) (by decide) (Nat.lt_of_lt_of_le (by decide) hx1.1) (hx1.2.1 0 (by decide)) rfl (b_s_board hB1 (by omega) hp1 hb1o hb1c hb13 hb12 hg1 hb1s) (fun v1 w1 h1 => ?_)
        obtain ⟨rfl, S2, bh2, nb2, rfl, hG2, hi2, hq2, hB2, hp2, hgr⟩ := h1
        have hx2 : xSh S2 := hB2.1
        have hgA : gA S S2 0 0 := (gA.sE hE1).tr (gA.bd hB1 hB2 hG2 (hq2 15 (by decide)) (hq2 16 (by decide)) (by rcases hgr with z | z; exact Or.inl ⟨z.2.1, z.2.2⟩; exact Or.inr ⟨by rw [z.2.2.1]; exact z.1, z.2.2.2.1, by rw [z.2.2.1]; exact z.2.2.2.2⟩))
        have hGG : gF (fun y => y = 50 ∨ y = 55 ∨ y = 57 ∨ y = 84 ∨ y = 94) S S2 := gF.tr ((gF.sE hE1).mono (fun y _ z => Or.inr (Or.inl (List.mem_singleton.mp z)))) (hG2.mono (fun y _ z => by omega))
        have hn2 : sdE S2 55 (rowT a1) := ht1.gf hG2 (Nat.lt_of_lt_of_le (by decide) hx1.1) (by omega)
        refine x_iconst 45 0 (ab_dd tk_s_restore 26 rfl) rfl (by decide) (x_topn 0 rfl ?_)
        exact x_iret (ab_dd tk_s_restore 27 rfl) (Or.inr (Or.inr ⟨(by first | exact hdd | (rw [← ekq]; exact hdd)), hz, rfl, S2, bh2, nb2, b1, rfl, hGG, by rw [hi2, hE1.2.2.1 50 (by simp only [List.mem_cons, List.not_mem_nil, or_false, not_or]; omega)], fun k z => by rw [hq2 k z, hE1.2.2.2.2.1], hgA, hB2, hp2, hn2⟩))
    · refine x_bipush 11 (-2) (ab_dd tk_s_restore 5 rfl) rfl (by decide) ?_
      exact x_iret (ab_dd tk_s_restore 6 rfl) (Or.inl ⟨fun z => h6 (le1_lt2 z.2), ⟨rfl, S, b, st, st2, rfl, fAs.rf, gA.rf, h.up (by omega), ht⟩⟩)
