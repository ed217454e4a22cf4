/-! ===== the class's helpers over the bundle ===== -/
theorem paI.eq {S S' : ab_S} {l : List Nat} {n s : Nat} {f : Nat → sT} (h : paI S n s f) (hE : sEq l S S') (hl : ∀ y, 57 ≤ y → y ≤ 68 → y ∉ l) : paI S' n s f := by
  obtain ⟨h1, h2, h3, h4, h5⟩ := h
  have e := hE.2.2.1 57 (hl 57 (by omega) (by omega))
  exact ⟨by rw [e]; exact h1, h2, by rw [e]; exact h3, h4, fun i hi => (h5 i hi).eq hE (hl _ (by omega) (by omega))⟩
theorem kBd.up {S : ab_S} {im : Nat → Prop} {a b : Nat → Int32} {c bh nb st st2 u u' : Nat} (h : kBd S im a c b bh nb st st2 u) (hu : u ≤ u') : kBd S im a c b bh nb st st2 u' := by
  have h0 := h
  obtain ⟨x1, x2, x3, ⟨x4, x5, x6⟩, x7, x8, ⟨x9, x10, x11, x12⟩, x13, -, x16, -, x18, x19⟩ := h0
  exact h.se84 (l := []) sEq.rf (fun y hy => by cases hy) x7 sta.rf x9 x10 x11 kpX.rf (Nat.le_refl _) hu (by omega)
def tb_s_lawsNow : List (Nat × Instr × Nat) := [(0, .aload_n 0, 1), (1, .getfield 77, 3), (4, .aload_n 0, 1), (5, .getfield 27, 3), (8, .getfield 134, 3), (11, .aload_n 0, 1), (12, .getfield 27, 3), (15, .getfield 180, 3), (18, .invokevirtual 183, 3), (21, .aload_n 0, 1), (22, .getfield 77, 3), (25, .areturn, 1)]
theorem tk_s_lawsNow : ∀ q ∈ tb_s_lawsNow, decode M_s_lawsNow.2.1 q.1 = .ok q.2 := by decide +kernel
theorem b_s_lawsNow {G : ab_G} {S : ab_S} {im : Nat → Prop} {a b : Nat → Int32} {c bh nb st st2 u : Nat} (h : kBd S im a c b bh nb st st2 u) (ht : sdE S 55 (rowT a)) (hu : u + 1 < 2 ^ 20) : ab_C G 1 M_s_lawsNow [.ref 50] (sw S) (fun v w' => v = some (.ref 84) ∧ ∃ S' st', w' = sw S' ∧ sEq [84] S S' ∧ kBd S' im a c a bh nb st' st2 (u + 1) ∧ sdE S' 55 (rowT a)) := by
  refine x_enter [some (.ref 50)] (by decide) (Nat.le_of_ble_eq_true rfl) rfl (fun v w' h => by obtain ⟨rfl, -⟩ := h; trivial) ?_
  have hbh := h.bh.1
  have h0 := h
  obtain ⟨hx, hse, kc, ⟨him, hil, h145⟩, ha, hc, ⟨hb1, hb2, hcl, hnb⟩, hcl9, -, hid, -, hu1, hu2⟩ := h0
  have h40 : sI S 55 3 = a 40 := ht.2.2.2.1.trans ha.1.m40.1.symm
  refine x_aload_n 1 0 (ab_dd tk_s_lawsNow 0 rfl) rfl rfl rfl ?_
  refine t_getP 4 84 (ab_dd tk_s_lawsNow 1 rfl) rfl F_s_77 (by decide) (Nat.lt_of_lt_of_le (by decide) hx.1) (hx.2.1 0 (by decide)) rfl (hx.2.2 (50, 12, 84) (by decide)) ?_
  refine x_aload_n 5 0 (ab_dd tk_s_lawsNow 2 rfl) rfl rfl rfl ?_
  refine t_getP 8 55 (ab_dd tk_s_lawsNow 3 rfl) rfl F_s_27 (by decide) (Nat.lt_of_lt_of_le (by decide) hx.1) (hx.2.1 0 (by decide)) rfl (hx.2.2 (50, 3, 55) (by decide)) ?_
  refine t_getI 11 (ab_dd tk_s_lawsNow 4 rfl) rfl F_s_134 (by decide) (Nat.lt_of_lt_of_le (by decide) hx.1) (hx.2.1 5 (by decide)) rfl (x_topn (seaC a) ht.1 ?_)
  refine x_aload_n 12 0 (ab_dd tk_s_lawsNow 5 rfl) rfl rfl rfl ?_
  refine t_getP 15 55 (ab_dd tk_s_lawsNow 6 rfl) rfl F_s_27 (by decide) (Nat.lt_of_lt_of_le (by decide) hx.1) (hx.2.1 0 (by decide)) rfl (hx.2.2 (50, 3, 55) (by decide)) ?_
  refine t_getI 18 (ab_dd tk_s_lawsNow 7 rfl) rfl F_s_180 (by decide) (Nat.lt_of_lt_of_le (by decide) hx.1) (hx.2.1 5 (by decide)) rfl (x_topx (a 40) h40 ?_)
  refine t_callV 21 M_cl_suppose 0 2 [_, _] (ab_dd tk_s_lawsNow 8 rfl) rfl (by first | decide | omega) K_cl_suppose V_cl_suppose.1 V_cl_suppose.2 L_s_183 rfl (Nat.le_of_ble_eq_true rfl) (by decide) (Nat.lt_of_lt_of_le (by decide) hx.1) (hx.2.1 34 (by decide)) rfl (c_cl_suppose2 (hx.cl (Or.inl rfl)) him (by exact hcl) hb1 ha.1 hb2.sy (by omega)) (fun v1 w1 h1 => ?_)
  obtain ⟨rfl, S1, st1, rfl, hE1, hcl1, hkp, hs1, hs2⟩ := h1
  have hx1 : xSh S1 := hx.eq hE1
  have hB1 : kBd S1 im a c a bh nb st1 st2 (u + 1) := h.se84 hE1 (fun y hy => by simp only [List.mem_cons, List.not_mem_nil, or_false] at hy; omega) ha sta.rf ha.1 sta.rf hcl1 hkp hs1 (by omega) (by omega)
  refine x_aload_n 22 0 (ab_dd tk_s_lawsNow 9 rfl) rfl rfl rfl ?_
  refine t_getP 25 84 (ab_dd tk_s_lawsNow 10 rfl) rfl F_s_77 (by decide) (Nat.lt_of_lt_of_le (by decide) hx1.1) (hx1.2.1 0 (by decide)) rfl (hx1.2.2 (50, 12, 84) (by decide)) ?_
  exact x_aret (ab_dd tk_s_lawsNow 11 rfl) ⟨rfl, S1, st1, rfl, hE1, hB1, ht.eq hE1 (by simp only [List.mem_cons, List.not_mem_nil, or_false, not_or]; omega)⟩
def tb_s_doAlone : List (Nat × Instr × Nat) := [(0, .aload_n 0, 1), (1, .getfield 31, 3), (4, .aload_n 0, 1), (5, .getfield 27, 3), (8, .invokevirtual 217, 3), (11, .aload_n 0, 1), (12, .aload_n 0, 1), (13, .getfield 77, 3), (16, .aload_n 0, 1), (17, .getfield 27, 3), (20, .iload_n 1, 1), (21, .i2l, 1), (22, .invokevirtual 198, 3), (25, .istore_n 2, 1), (26, .iload_n 2, 1), (27, .ifCond .ne 14, 3), (30, .aload_n 0, 1), (31, .getfield 37, 3), (34, .aload_n 0, 1), (35, .getfield 31, 3), (38, .invokevirtual 194, 3), (41, .iload_n 2, 1), (42, .ireturn, 1)]
theorem tk_s_doAlone : ∀ q ∈ tb_s_doAlone, decode M_s_doAlone.2.1 q.1 = .ok q.2 := by decide +kernel
theorem b_s_doAlone {G : ab_G} {S : ab_S} {im : Nat → Prop} {a b : Nat → Int32} {c bh nb st st2 u : Nat} (h : kBd S im a c b bh nb st st2 u) (ht : sdE S 55 (rowT a)) (hu : u + 1 < 2 ^ 20) {n s : Nat} {f : Nat → sT} (hp : paI S n s f) (d : Nat) (hd : d < 2 ^ 31) : ab_C G 6 M_s_doAlone [.ref 50, .int (nI d)] (sw S) (fun v w' => v = some (.int (nI (aWy a (lN d)))) ∧ ∃ S' b' st', w' = sw S' ∧ sEq [56, 84, 89, 90, 91, 92, 93, bh, 55, 57, 59, 60, 61, 62, 63, 64, 65, 66, 67, 68] S S' ∧ kBd S' im (aft a (lN d)) c b' bh nb st' st2 (u + 1) ∧ sdE S' 55 (rowT (aft a (lN d))) ∧ (if aWy a (lN d) = 0 then paI S' ((n + 1) % 10) (if s + 1 ≤ 10 then s + 1 else 10) (up1 f n (rowT a)) else paI S' n s f)) := by
  refine x_enter [some (.ref 50), some (.int (nI d)), none] (by decide) (Nat.le_of_ble_eq_true rfl) rfl (fun v w' h => by obtain ⟨rfl, -⟩ := h; rfl) ?_
  have hbh := h.bh.1
  have h0 := h
  obtain ⟨hx, hse, kc, ⟨him, hil, h145⟩, ha, hc, ⟨hb1, hb2, hcl, hnb⟩, hcl9, -, hid, -, hu1, hu2⟩ := h0
  have h40 : sI S 55 3 = a 40 := ht.2.2.2.1.trans ha.1.m40.1.symm
  have hY := aWy_lt (a := a) (v := lN d)
  refine x_aload_n 1 0 (ab_dd tk_s_doAlone 0 rfl) rfl rfl rfl ?_
  refine t_getP 4 56 (ab_dd tk_s_doAlone 1 rfl) rfl F_s_31 (by decide) (Nat.lt_of_lt_of_le (by decide) hx.1) (hx.2.1 0 (by decide)) rfl (hx.2.2 (50, 4, 56) (by decide)) ?_
  refine x_aload_n 5 0 (ab_dd tk_s_doAlone 2 rfl) rfl rfl rfl ?_
  refine t_getP 8 55 (ab_dd tk_s_doAlone 3 rfl) rfl F_s_27 (by decide) (Nat.lt_of_lt_of_le (by decide) hx.1) (hx.2.1 0 (by decide)) rfl (hx.2.2 (50, 3, 55) (by decide)) ?_
  refine t_callV 11 M_sd_copy 0 1 [_] (ab_dd tk_s_doAlone 4 rfl) rfl (by first | decide | omega) K_sd_copy V_sd_copy.1 V_sd_copy.2 L_s_217 rfl (Nat.le_of_ble_eq_true rfl) (by decide) (Nat.lt_of_lt_of_le (by decide) hx.1) (hx.2.1 6 (by decide)) rfl (c_sd_copy (show sdK S 56 from x_55 (by exact hx) (by decide)) (show sdK S 55 from x_55 (by exact hx) (by decide)) (by decide) ht) (fun v1 w1 h1 => ?_)
  obtain ⟨rfl, S1, rfl, hE1, ht1⟩ := h1
  have hB1 := h.se hE1 (fun y hy => by simp only [List.mem_cons, List.not_mem_nil, or_false] at hy; omega)
  have hx1 : xSh S1 := hB1.1
  have hn1 : sdE S1 55 (rowT a) := ht.eq hE1 (by simp only [List.mem_cons, List.not_mem_nil, or_false, not_or]; omega)
  refine x_aload_n 12 0 (ab_dd tk_s_doAlone 5 rfl) rfl rfl rfl ?_
  refine x_aload_n 13 0 (ab_dd tk_s_doAlone 6 rfl) rfl rfl rfl ?_
  refine t_getP 16 84 (ab_dd tk_s_doAlone 7 rfl) rfl F_s_77 (by decide) (Nat.lt_of_lt_of_le (by decide) hx1.1) (hx1.2.1 0 (by decide)) rfl (hx1.2.2 (50, 12, 84) (by decide)) ?_
  refine x_aload_n 17 0 (ab_dd tk_s_doAlone 8 rfl) rfl rfl rfl ?_
  refine t_getP 20 55 (ab_dd tk_s_doAlone 9 rfl) rfl F_s_27 (by decide) (Nat.lt_of_lt_of_le (by decide) hx1.1) (hx1.2.1 0 (by decide)) rfl (hx1.2.2 (50, 3, 55) (by decide)) ?_
  refine x_iload_n 21 1 (ab_dd tk_s_doAlone 10 rfl) rfl rfl rfl ?_
  refine x_i2l 22 (ab_dd tk_s_doAlone 11 rfl) rfl (x_topL (lN d) (nI_l (by omega)) ?_)
  refine t_callV 25 M_s_act 5 3 [_, _, _] (ab_dd tk_s_doAlone 12 rfl) rfl (by first | decide | omega) K_s_act V_s_act.1 V_s_act.2 L_s_198 rfl (Nat.le_of_ble_eq_true rfl) (by decide) (Nat.lt_of_lt_of_le (by decide) hx1.1) (hx1.2.1 0 (by decide)) rfl (b_s_act hB1 hn1 hu (lN d)) (fun v1 w1 h1 => ?_)
  obtain ⟨rfl, S2, b2, s2, rfl, hE2, hB2, hn2⟩ := h1
  have hx2 : xSh S2 := hB2.1
  have ht2 : sdE S2 56 (rowT a) := ht1.eq hE2 (by simp only [List.mem_cons, List.not_mem_nil, or_false, not_or]; omega)
  have hp2 : paI S2 n s f := (hp.eq hE1 (fun y y1 y2 => (by simp only [List.mem_cons, List.not_mem_nil, or_false, not_or]; omega))).eq hE2 (fun y y1 y2 => (by simp only [List.mem_cons, List.not_mem_nil, or_false, not_or]; omega))
  have hEa : sEq [56, 84, 89, 90, 91, 92, 93, bh, 55, 57, 59, 60, 61, 62, 63, 64, 65, 66, 67, 68] S S2 := (hE1.mono (fun y hy => by simp only [List.mem_cons, List.not_mem_nil, or_false] at hy ⊢; omega)).tr (hE2.mono (fun y hy => by simp only [List.mem_cons, List.not_mem_nil, or_false] at hy ⊢; omega))
  refine x_istore_n 26 [some (.ref 50), some (.int (nI d)), some (.int (nI (aWy a (lN d))))] 2 (ab_dd tk_s_doAlone 13 rfl) rfl rfl (by decide) rfl ?_
  refine x_iload_n 27 2 (ab_dd tk_s_doAlone 14 rfl) rfl rfl rfl ?_
  refine xn_if_ne 30 41 (ab_dd tk_s_doAlone 15 rfl) rfl (by decide) (by omega) (fun h27 => ?_) (fun h27 => ?_)
  · refine x_iload_n 42 2 (ab_dd tk_s_doAlone 21 rfl) rfl rfl rfl ?_
    exact x_iret (ab_dd tk_s_doAlone 22 rfl) ⟨rfl, S2, b2, s2, rfl, hEa, hB2, hn2, by rw [if_neg (by omega)]; exact hp2⟩
  · refine x_aload_n 31 0 (ab_dd tk_s_doAlone 16 rfl) rfl rfl rfl ?_
    refine t_getP 34 57 (ab_dd tk_s_doAlone 17 rfl) rfl F_s_37 (by decide) (Nat.lt_of_lt_of_le (by decide) hx2.1) (hx2.2.1 0 (by decide)) rfl (hx2.2.2 (50, 5, 57) (by decide)) ?_
    refine x_aload_n 35 0 (ab_dd tk_s_doAlone 18 rfl) rfl rfl rfl ?_
    refine t_getP 38 56 (ab_dd tk_s_doAlone 19 rfl) rfl F_s_31 (by decide) (Nat.lt_of_lt_of_le (by decide) hx2.1) (hx2.2.1 0 (by decide)) rfl (hx2.2.2 (50, 4, 56) (by decide)) ?_
    refine t_callV 41 M_pa_keep 1 1 [_] (ab_dd tk_s_doAlone 20 rfl) rfl (by first | decide | omega) K_pa_keep V_pa_keep.1 V_pa_keep.2 L_s_194 rfl (Nat.le_of_ble_eq_true rfl) (by decide) (Nat.lt_of_lt_of_le (by decide) hx2.1) (hx2.2.1 7 (by decide)) rfl (c_pa_keep hx2 hp2 (show sdK S2 56 from x_55 (by exact hx2) (by decide)) (Or.inl (by decide)) ht2) (fun v1 w1 h1 => ?_)
    obtain ⟨rfl, S3, rfl, hE3, hp3⟩ := h1
    have hB3 := hB2.se hE3 (fun y hy => by simp only [List.mem_cons, List.not_mem_nil, or_false] at hy; omega)
    have hx3 : xSh S3 := hB3.1
    refine x_iload_n 42 2 (ab_dd tk_s_doAlone 21 rfl) rfl rfl rfl ?_
    exact x_iret (ab_dd tk_s_doAlone 22 rfl) ⟨rfl, S3, b2, s2, rfl, hEa.tr (hE3.mono (fun y hy => by simp only [List.mem_cons, List.not_mem_nil, or_false] at hy ⊢; omega)), hB3, hn2.eq hE3 (by simp only [List.mem_cons, List.not_mem_nil, or_false, not_or]; omega), by rw [if_pos h27]; exact hp3⟩
def tb_s_actAll : List (Nat × Instr × Nat) := [(0, .iconst 0, 1), (1, .istore 4, 2), (3, .iload 4, 2), (5, .aload_n 3, 1), (6, .getfield 224, 3), (9, .if_icmp .ge 24, 3), (12, .aload_n 0, 1), (13, .aload_n 1, 1), (14, .aload_n 2, 1), (15, .aload_n 3, 1), (16, .iload 4, 2), (18, .invokevirtual 225, 3), (21, .invokevirtual 198, 3), (24, .ifCond .ne 9, 3), (27, .iinc 4 1, 3), (30, .goto (-27), 3), (33, .iload 4, 2), (35, .ireturn, 1)]
theorem tk_s_actAll : ∀ q ∈ tb_s_actAll, decode M_s_actAll.2.1 q.1 = .ok q.2 := by decide +kernel
theorem b_s_actAll {G : ab_G} {S : ab_S} {im : Nat → Prop} {a b : Nat → Int32} {c bh nb st st2 u : Nat} (h : kBd S im a c b bh nb st st2 u) (ht : sdE S 55 (rowT a)) {n : Nat} (hn : n ≤ 40) (hu : u + n < 2 ^ 20) {tq : Nat} (hy4 : tq < 4) (hsz : sI S (109 + 2 * tq) 2 = nI n) {f : Nat → Int64} (hf : ∀ i, i < n → sJ S (110 + 2 * tq) i = f i) : ab_C G 6 M_s_actAll [.ref 50, .ref 84, .ref 55, .ref (109 + 2 * tq)] (sw S) (fun v w' => v = some (.int (nI (aTl f n 0 a).1)) ∧ ∃ S' b' st', w' = sw S' ∧ sEq [84, 89, 90, 91, 92, 93, bh, 55] S S' ∧ kBd S' im (aTl f n 0 a).2.2 c b' bh nb st' st2 (u + n) ∧ sdE S' 55 (rowT (aTl f n 0 a).2.2)) := by
  refine x_enter [some (.ref 50), some (.ref 84), some (.ref 55), some (.ref (109 + 2 * tq)), none] (by decide) (Nat.le_of_ble_eq_true rfl) rfl (fun v w' h => by obtain ⟨rfl, -⟩ := h; rfl) ?_
  have hbh := h.bh.1
  have hx : xSh S := h.1
  have loop : ∀ (m k : Nat), k + m = n → ∀ (S1 : ab_S) (a1 b1 : Nat → Int32) (s1 : Nat), kBd S1 im a1 c b1 bh nb s1 st2 (u + k) → sEq [84, 89, 90, 91, 92, 93, bh, 55] S S1 → sdE S1 55 (rowT a1) → aTl f n 0 a = aTl f m k a1 → ab_Ex G 6 M_s_actAll 3 [some (.ref 50), some (.ref 84), some (.ref 55), some (.ref (109 + 2 * tq)), some (.int (nI k))] [] (sw S1) (fun v w' => v = some (.int (nI (aTl f n 0 a).1)) ∧ ∃ S' b' st', w' = sw S' ∧ sEq [84, 89, 90, 91, 92, 93, bh, 55] S S' ∧ kBd S' im (aTl f n 0 a).2.2 c b' bh nb st' st2 (u + n) ∧ sdE S' 55 (rowT (aTl f n 0 a).2.2)) := by
    intro m
    induction m with
    | zero =>
      intro k hk S1 a1 b1 s1 hB1 hE1 ht1 hT
      have hx1 : xSh S1 := hB1.1
      have hz1 : sI S1 (109 + 2 * tq) 2 = nI n := (congrFun (hE1.2.2.1 _ (by simp only [List.mem_cons, List.not_mem_nil, or_false, not_or]; omega)) 2).trans hsz
      have hkn : k = n := by omega
      have hT2 : (aTl f n 0 a) = (k, 0, a1) := hT
      refine x_iload 5 4 (ab_dd tk_s_actAll 2 rfl) rfl rfl ?_
      refine x_aload_n 6 3 (ab_dd tk_s_actAll 3 rfl) rfl rfl rfl ?_
      refine t_getI 9 (ab_dd tk_s_actAll 4 rfl) rfl F_s_224 (by omega) (Nat.lt_of_lt_of_le (show (109 + 2 * tq) < 120 by omega) hx1.1) (x_109 hx1 (by omega)) rfl (x_topn n hz1 ?_)
      refine x_icmp_ge_t 33 (ab_dd tk_s_actAll 5 rfl) (by decide) ((nI_leI (a := n) (b := k) (by omega) (by omega)).mpr (show n ≤ k by omega)) ?_
      refine x_iload 35 4 (ab_dd tk_s_actAll 16 rfl) rfl rfl ?_
      exact x_iret (ab_dd tk_s_actAll 17 rfl) ⟨rI (by rw [hT2]), S1, b1, s1, rfl, hE1, by rw [hT2]; exact hB1.up (by omega), by rw [hT2]; exact ht1⟩
    | succ m ih =>
      intro k hk S1 a1 b1 s1 hB1 hE1 ht1 hT
      have hx1 : xSh S1 := hB1.1
      have hz1 : sI S1 (109 + 2 * tq) 2 = nI n := (congrFun (hE1.2.2.1 _ (by simp only [List.mem_cons, List.not_mem_nil, or_false, not_or]; omega)) 2).trans hsz
      have hY := aWy_lt (a := a1) (v := f k)
      have hfk : sJ S1 (110 + 2 * tq) k = f k := (congrFun (hE1.2.2.2.1 _ (by simp only [List.mem_cons, List.not_mem_nil, or_false, not_or]; omega)) k).trans (hf k (by omega))
      have hst : aTl f (m + 1) k a1 = if aWy a1 (f k) = 0 then aTl f m (k + 1) (aDo a1 (jW (f k))) else (k, aWy a1 (f k), a1) := rfl
      rw [hst] at hT
      refine x_iload 5 4 (ab_dd tk_s_actAll 2 rfl) rfl rfl ?_
      refine x_aload_n 6 3 (ab_dd tk_s_actAll 3 rfl) rfl rfl rfl ?_
      refine t_getI 9 (ab_dd tk_s_actAll 4 rfl) rfl F_s_224 (by omega) (Nat.lt_of_lt_of_le (show (109 + 2 * tq) < 120 by omega) hx1.1) (x_109 hx1 (by omega)) rfl (x_topn n hz1 ?_)
      refine x_icmp_ge_f 12 (ab_dd tk_s_actAll 5 rfl) rfl 33 (by decide) (fun z => absurd ((nI_leI (a := n) (b := k) (by omega) (by omega)).mp z) (show ¬ (n ≤ k) by omega)) ?_
      refine x_aload_n 13 0 (ab_dd tk_s_actAll 6 rfl) rfl rfl rfl ?_
      refine x_aload_n 14 1 (ab_dd tk_s_actAll 7 rfl) rfl rfl rfl ?_
      refine x_aload_n 15 2 (ab_dd tk_s_actAll 8 rfl) rfl rfl rfl ?_
      refine x_aload_n 16 3 (ab_dd tk_s_actAll 9 rfl) rfl rfl rfl ?_
      refine x_iload 18 4 (ab_dd tk_s_actAll 10 rfl) rfl rfl ?_
      refine t_callV 21 M_ty_numberAt 0 1 [_] (ab_dd tk_s_actAll 11 rfl) rfl (by first | decide | omega) K_ty_numberAt V_ty_numberAt.1 V_ty_numberAt.2 L_s_225 rfl (Nat.le_of_ble_eq_true rfl) (by omega) (Nat.lt_of_lt_of_le (show (109 + 2 * tq) < 120 by omega) hx1.1) (x_109 hx1 (by omega)) rfl (c_ty_numberAt (by exact hx1) hy4 k (by omega)) (fun v1 w1 h1 => ?_)
      obtain ⟨rfl, rfl⟩ := h1
      rw [hfk]
      refine t_callV 24 M_s_act 5 3 [_, _, _] (ab_dd tk_s_actAll 12 rfl) rfl (by first | decide | omega) K_s_act V_s_act.1 V_s_act.2 L_s_198 rfl (Nat.le_of_ble_eq_true rfl) (by decide) (Nat.lt_of_lt_of_le (by decide) hx1.1) (hx1.2.1 0 (by decide)) rfl (b_s_act hB1 ht1 (by omega) (f k)) (fun v1 w1 h1 => ?_)
      obtain ⟨rfl, S2, b2, s2, rfl, hE2, hB2, hn2⟩ := h1
      have hx2 : xSh S2 := hB2.1
      refine xn_if_ne 27 33 (ab_dd tk_s_actAll 13 rfl) rfl (by decide) (by omega) (fun h24 => ?_) (fun h24 => ?_)
      · refine x_iload 35 4 (ab_dd tk_s_actAll 16 rfl) rfl rfl ?_
        have hT2 : (aTl f n 0 a) = (k, aWy a1 (f k), a1) := by rw [hT, if_neg (by omega)]
        have ea : aft a1 (f k) = a1 := if_neg (by omega)
        rw [ea] at hB2 hn2
        exact x_iret (ab_dd tk_s_actAll 17 rfl) ⟨rI (by rw [hT2]), S2, b2, s2, rfl, hE1.tr hE2, by rw [hT2]; exact hB2.up (by omega), by rw [hT2]; exact hn2⟩
      · refine xn_iinc 30 4 (fun y => [some (.ref 50), some (.ref 84), some (.ref 55), some (.ref (109 + 2 * tq)), some (.int y)]) (k + 1) (ab_dd tk_s_actAll 14 rfl) rfl (by decide) rfl (fun _ => rfl) (iinc_p 1) ?_
        refine x_goto 3 (ab_dd tk_s_actAll 15 rfl) (by decide) ?_
        rw [if_pos h24] at hT
        have ea : aft a1 (f k) = aDo a1 (jW (f k)) := if_pos h24
        rw [ea] at hB2 hn2
        exact ih (k + 1) (by omega) S2 _ b2 s2 hB2 (hE1.tr hE2) hn2 hT
  refine x_iconst 1 0 (ab_dd tk_s_actAll 0 rfl) rfl (by decide) (x_topn 0 rfl ?_)
  refine x_istore 3 [some (.ref 50), some (.ref 84), some (.ref 55), some (.ref (109 + 2 * tq)), some (.int (nI 0))] 4 (ab_dd tk_s_actAll 1 rfl) rfl (by decide) rfl ?_
  exact loop n 0 (by omega) S a b st h sEq.rf ht rfl
theorem b_s_actAllT {G : ab_G} {S : ab_S} {im : Nat → Prop} {a b : Nat → Int32} {c bh nb st st2 u : Nat} (h : kBd S im a c b bh nb st st2 u) {a0 : Nat → Int32} (ha0 : aGood a0) (hs0 : sta a a0) (ht : sdE S 56 (rowT a0)) {n : Nat} (hn : n ≤ 40) (hu : u + n < 2 ^ 20) {tq : Nat} (hy4 : tq < 4) (hsz : sI S (109 + 2 * tq) 2 = nI n) {f : Nat → Int64} (hf : ∀ i, i < n → sJ S (110 + 2 * tq) i = f i) : ab_C G 6 M_s_actAll [.ref 50, .ref 94, .ref 56, .ref (109 + 2 * tq)] (sw S) (fun v w' => v = some (.int (nI (aTl f n 0 a0).1)) ∧ ∃ S' st2', w' = sw S' ∧ sEq [94, 99, 100, 101, 102, 103, 98, 56] S S' ∧ kBd S' im a c b bh nb st st2' (u + n) ∧ sdE S' 56 (rowT (aTl f n 0 a0).2.2) ∧ aGood (aTl f n 0 a0).2.2 ∧ sta a (aTl f n 0 a0).2.2) := by
  refine x_enter [some (.ref 50), some (.ref 94), some (.ref 56), some (.ref (109 + 2 * tq)), none] (by decide) (Nat.le_of_ble_eq_true rfl) rfl (fun v w' h => by obtain ⟨rfl, -⟩ := h; rfl) ?_
  have hbh := h.bh.1
  have hx : xSh S := h.1
  have loop : ∀ (m k : Nat), k + m = n → ∀ (S1 : ab_S) (a1 : Nat → Int32) (s1 : Nat), kBd S1 im a c b bh nb st s1 (u + k) → sEq [94, 99, 100, 101, 102, 103, 98, 56] S S1 → sdE S1 56 (rowT a1) → aTl f n 0 a0 = aTl f m k a1 → aGood a1 → sta a a1 → ab_Ex G 6 M_s_actAll 3 [some (.ref 50), some (.ref 94), some (.ref 56), some (.ref (109 + 2 * tq)), some (.int (nI k))] [] (sw S1) (fun v w' => v = some (.int (nI (aTl f n 0 a0).1)) ∧ ∃ S' st2', w' = sw S' ∧ sEq [94, 99, 100, 101, 102, 103, 98, 56] S S' ∧ kBd S' im a c b bh nb st st2' (u + n) ∧ sdE S' 56 (rowT (aTl f n 0 a0).2.2) ∧ aGood (aTl f n 0 a0).2.2 ∧ sta a (aTl f n 0 a0).2.2) := by
    intro m
    induction m with
    | zero =>
      intro k hk S1 a1 s1 hB1 hE1 ht1 hT hg1 hs1
      have hx1 : xSh S1 := hB1.1
      have hz1 : sI S1 (109 + 2 * tq) 2 = nI n := (congrFun (hE1.2.2.1 _ (by simp only [List.mem_cons, List.not_mem_nil, or_false, not_or]; omega)) 2).trans hsz
      have hkn : k = n := by omega
      have hT2 : (aTl f n 0 a0) = (k, 0, a1) := hT
      refine x_iload 5 4 (ab_dd tk_s_actAll 2 rfl) rfl rfl ?_
      refine x_aload_n 6 3 (ab_dd tk_s_actAll 3 rfl) rfl rfl rfl ?_
      refine t_getI 9 (ab_dd tk_s_actAll 4 rfl) rfl F_s_224 (by omega) (Nat.lt_of_lt_of_le (show (109 + 2 * tq) < 120 by omega) hx1.1) (x_109 hx1 (by omega)) rfl (x_topn n hz1 ?_)
      refine x_icmp_ge_t 33 (ab_dd tk_s_actAll 5 rfl) (by decide) ((nI_leI (a := n) (b := k) (by omega) (by omega)).mpr (show n ≤ k by omega)) ?_
      refine x_iload 35 4 (ab_dd tk_s_actAll 16 rfl) rfl rfl ?_
      exact x_iret (ab_dd tk_s_actAll 17 rfl) ⟨rI (by rw [hT2]), S1, s1, rfl, hE1, by exact hB1.up (by omega), by rw [hT2]; exact ht1, by rw [hT2]; exact hg1, by rw [hT2]; exact hs1⟩
    | succ m ih =>
      intro k hk S1 a1 s1 hB1 hE1 ht1 hT hg1 hs1
      have hx1 : xSh S1 := hB1.1
      have hz1 : sI S1 (109 + 2 * tq) 2 = nI n := (congrFun (hE1.2.2.1 _ (by simp only [List.mem_cons, List.not_mem_nil, or_false, not_or]; omega)) 2).trans hsz
      have hY := aWy_lt (a := a1) (v := f k)
      have hfk : sJ S1 (110 + 2 * tq) k = f k := (congrFun (hE1.2.2.2.1 _ (by simp only [List.mem_cons, List.not_mem_nil, or_false, not_or]; omega)) k).trans (hf k (by omega))
      have hst : aTl f (m + 1) k a1 = if aWy a1 (f k) = 0 then aTl f m (k + 1) (aDo a1 (jW (f k))) else (k, aWy a1 (f k), a1) := rfl
      rw [hst] at hT
      refine x_iload 5 4 (ab_dd tk_s_actAll 2 rfl) rfl rfl ?_
      refine x_aload_n 6 3 (ab_dd tk_s_actAll 3 rfl) rfl rfl rfl ?_
      refine t_getI 9 (ab_dd tk_s_actAll 4 rfl) rfl F_s_224 (by omega) (Nat.lt_of_lt_of_le (show (109 + 2 * tq) < 120 by omega) hx1.1) (x_109 hx1 (by omega)) rfl (x_topn n hz1 ?_)
      refine x_icmp_ge_f 12 (ab_dd tk_s_actAll 5 rfl) rfl 33 (by decide) (fun z => absurd ((nI_leI (a := n) (b := k) (by omega) (by omega)).mp z) (show ¬ (n ≤ k) by omega)) ?_
      refine x_aload_n 13 0 (ab_dd tk_s_actAll 6 rfl) rfl rfl rfl ?_
      refine x_aload_n 14 1 (ab_dd tk_s_actAll 7 rfl) rfl rfl rfl ?_
      refine x_aload_n 15 2 (ab_dd tk_s_actAll 8 rfl) rfl rfl rfl ?_
      refine x_aload_n 16 3 (ab_dd tk_s_actAll 9 rfl) rfl rfl rfl ?_
      refine x_iload 18 4 (ab_dd tk_s_actAll 10 rfl) rfl rfl ?_
      refine t_callV 21 M_ty_numberAt 0 1 [_] (ab_dd tk_s_actAll 11 rfl) rfl (by first | decide | omega) K_ty_numberAt V_ty_numberAt.1 V_ty_numberAt.2 L_s_225 rfl (Nat.le_of_ble_eq_true rfl) (by omega) (Nat.lt_of_lt_of_le (show (109 + 2 * tq) < 120 by omega) hx1.1) (x_109 hx1 (by omega)) rfl (c_ty_numberAt (by exact hx1) hy4 k (by omega)) (fun v1 w1 h1 => ?_)
      obtain ⟨rfl, rfl⟩ := h1
      rw [hfk]
      refine t_callV 24 M_s_act 5 3 [_, _, _] (ab_dd tk_s_actAll 12 rfl) rfl (by first | decide | omega) K_s_act V_s_act.1 V_s_act.2 L_s_198 rfl (Nat.le_of_ble_eq_true rfl) (by decide) (Nat.lt_of_lt_of_le (by decide) hx1.1) (hx1.2.1 0 (by decide)) rfl (b_s_actT hB1 hg1 hs1 ht1 (by omega) (f k)) (fun v1 w1 h1 => ?_)
      obtain ⟨rfl, S2, s2, rfl, hE2, hB2, hn2⟩ := h1
      have hx2 : xSh S2 := hB2.1
      refine xn_if_ne 27 33 (ab_dd tk_s_actAll 13 rfl) rfl (by decide) (by omega) (fun h24 => ?_) (fun h24 => ?_)
      · refine x_iload 35 4 (ab_dd tk_s_actAll 16 rfl) rfl rfl ?_
        have hT2 : (aTl f n 0 a0) = (k, aWy a1 (f k), a1) := by rw [hT, if_neg (by omega)]
        have ea : aft a1 (f k) = a1 := if_neg (by omega)
        rw [ea] at hn2
        exact x_iret (ab_dd tk_s_actAll 17 rfl) ⟨rI (by rw [hT2]), S2, s2, rfl, hE1.tr hE2, hB2.up (by omega), by rw [hT2]; exact hn2, by rw [hT2]; exact hg1, by rw [hT2]; exact hs1⟩
      · refine xn_iinc 30 4 (fun y => [some (.ref 50), some (.ref 94), some (.ref 56), some (.ref (109 + 2 * tq)), some (.int y)]) (k + 1) (ab_dd tk_s_actAll 14 rfl) rfl (by decide) rfl (fun _ => rfl) (iinc_p 1) ?_
        refine x_goto 3 (ab_dd tk_s_actAll 15 rfl) (by decide) ?_
        rw [if_pos h24] at hT
        have ea : aft a1 (f k) = aDo a1 (jW (f k)) := if_pos h24
        have hg2 := aft_ok hg1 (f k)
        rw [ea] at hg2
        rw [ea] at hn2
        exact ih (k + 1) (by omega) S2 _ s2 hB2 (hE1.tr hE2) hn2 hT hg2.1 (hs1.tr hg2.2)
  refine x_iconst 1 0 (ab_dd tk_s_actAll 0 rfl) rfl (by decide) (x_topn 0 rfl ?_)
  refine x_istore 3 [some (.ref 50), some (.ref 94), some (.ref 56), some (.ref (109 + 2 * tq)), some (.int (nI 0))] 4 (ab_dd tk_s_actAll 1 rfl) rfl (by decide) rfl ?_
  exact loop n 0 (by omega) S a0 st2 h sEq.rf ht rfl ha0 hs0
