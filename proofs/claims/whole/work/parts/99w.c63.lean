/-! ===== journey ===== -/
theorem foN.gf5 {S S' : ab_S} {l im : Nat → Prop} {bh r N kn rs : Nat} {b : Nat → Int32} (h : foN S im bh r N kn rs b) (g : gF l S S') (h145 : 145 ≤ sn S) (hb84 : 84 ≤ bh) (hl : ∀ y, l y → y < 145 ∨ y = bh) (e50 : sP S' 50 = sP S 50) : foN S' im bh r N kn rs b := by
  rcases h with h | ⟨F, M, p, hi, hb, hr, hK, hz, hM, hs⟩
  · exact Or.inl (by rw [e50]; exact h)
  · have hF := hK.1
    have hF2 := hK.2.1
    have nl : ∀ y, F ≤ y → y ≤ F + 5 → ¬ l y := fun y h1 h2 z => by have := hl y z; omega
    have e0 := (g.2.2.2 F (by omega) (nl F (by omega) (by omega))).1
    have e1 := (g.2.2.2 (F + 1) (by omega) (nl (F + 1) (by omega) (by omega))).1
    refine Or.inr ⟨F, M, by rw [e50]; exact p, hi, hb, hr, hK.gf g (nl F (by omega) (by omega)), hz, hM, fun z => ?_⟩
    obtain ⟨s1, s2⟩ := hs z
    rw [e0]
    exact ⟨s1, fun y => ⟨(s2 y).1, fun p h T a1 a2 a3 a4 a5 => ((s2 y).2 p h T a1 a2 a3 a4 a5).ge e1⟩⟩
theorem rfK.gf5 {S S' : ab_S} {l im : Nat → Prop} {bh st st' u u' : Nat} {b0 b0' : Nat → Int32} (h : rfK S im bh st b0 u) (g : gF l S S') (h145 : 145 ≤ sn S) (hb84 : 84 ≤ bh) (hl : ∀ y, l y → y < 145 ∨ y = bh) (e50 : sP S' 50 = sP S 50) (hst : st ≤ st') (hs20 : st' < 2 ^ 20) (hu : u ≤ u') (hal : st' = st → alk b0 b0') : rfK S' im bh st' b0' u' := by
  rcases h with ⟨h1, h2⟩ | ⟨r, N, kn, rs, b, p, hi, hb, hK, hz, hs, k1, k2, r1, r2, h9, hI, hF⟩
  · exact Or.inl ⟨by rw [e50]; exact h1, by rw [e50]; exact h2⟩
  · have hr := hK.1
    have hr2 := hK.2.1
    have nl : ∀ y, r ≤ y → y ≤ r + 7 → ¬ l y := fun y h1 h2 z => by have := hl y z; omega
    have e0 := (g.2.2.2 r (by omega) (nl r (by omega) (by omega))).1
    have e2 := (g.2.2.2 (r + 2) (by omega) (nl (r + 2) (by omega) (by omega))).1
    refine Or.inr ⟨r, N, kn, rs, b, by rw [e50]; exact p, hi, hb, hK.gf g (nl r (by omega) (by omega)), hz, by rw [e2]; exact hs, by rw [e0]; exact k1, k2, by rw [e0]; exact r1, by omega, fun s y1 y2 => by rw [e0]; exact h9 s (by omega) y2, fun z => ?_, hF.gf5 g h145 hb84 hl e50⟩
    obtain ⟨k, q1, q2, q3⟩ := hI z
    refine ⟨k, q1, q2.gf g hr2 (fun y y1 y2 => nl y y1 (by omega)), fun y => ?_⟩
    rw [e0] at y
    by_cases w : st' = st
    · rw [w] at y
      exact (q3 y).tr (hal w)
    · exact absurd y (h9 st' (by omega) hs20)
theorem kBd.step5 {S S' : ab_S} {l im : Nat → Prop} {a a' b b' : Nat → Int32} {c bh nb st st2 u st' st2' u' : Nat} (h : kBd S im a c b bh nb st st2 u) (g : gF l S S') (hx : xSh S') (hl : ∀ y, l y → (y < 145 ∧ ¬ (79 ≤ y ∧ y ≤ 82)) ∨ y = bh) (e50 : sP S' 50 = sP S 50) (ha' : aGood a') (hs : sta a a') (hb' : aOk b') (hsb : sta a' b') (h84 : clI S' im 84 c b' bh nb st') (hkp : kpX S S' 84 st st') (hle : st ≤ st') (h94 : clX S' im 94 c a' 98 0 st2') (h941 : sI S' 94 1 = sI S 94 1) (hid : idR S') (hu : u ≤ u') (hu1 : st' ≤ u') (hu2 : st2' ≤ u') : kBd S' im a' c b' bh nb st' st2' u' := by
  obtain ⟨x1, x2, x3, ⟨x4, x5, x6⟩, x7, x8, ⟨x9, x10, x11, x12⟩, x13, ⟨x14, x15⟩, x16, x17, x18, x19⟩ := h
  have hbh : 84 ≤ bh ∧ ¬ (79 ≤ bh ∧ bh ≤ 82) := by
    obtain ⟨-, -, -, -, -, -, -, -, -, -, -, y, -⟩ := x11
    omega
  have hl' : ∀ y, l y → y < 145 ∨ y = bh := fun y z => by have := hl y z; omega
  refine ⟨hx, x2.gf g (by omega) (fun y y1 y2 z => by have := hl y z; omega), by rw [g.1]; exact x3, ⟨x4, fun y z => Nat.lt_of_lt_of_le (x5 y z) g.2.1, Nat.le_trans x6 g.2.1⟩, ha', by rw [e50]; exact x8, ⟨hb', hsb, h84, x12⟩, h94, ⟨hkp.1.trans x14, h941.trans x15⟩, hid, x17.gf5 g x6 hbh.1 hl' e50 hle ?_ hu (fun w => ?_), hu1, hu2⟩
  · exact h84.2.2.2.2.2.1.2
  · obtain ⟨y1, y2⟩ := hkp.2 w
    refine alk_of x9 hb' ((x10.sy.tr hs).tr hsb) ?_ ?_
    · rw [← h84.2.2.1, ← x11.2.2.1]; exact y1
    · rw [← h84.2.2.2.1, ← x11.2.2.2.1]; exact y2
/-- a step of neither climate that may touch the ints of the object itself, its tape, its reader -/
theorem kBd.se5 {S S' : ab_S} {l : List Nat} {im : Nat → Prop} {a b : Nat → Int32} {c bh nb st st2 u : Nat} (h : kBd S im a c b bh nb st st2 u) (hE : sEq l S S') (hl : ∀ y, y ∈ l → y = 50 ∨ y = 51 ∨ (55 ≤ y ∧ y ≤ 78) ∨ (104 ≤ y ∧ y ≤ 118)) : kBd S' im a c b bh nb st st2 u := by
  obtain ⟨q1, q2⟩ := h.bh
  have h0 := h
  obtain ⟨x1, x2, x3, ⟨x4, x5, x6⟩, x7, x8, ⟨x9, x10, x11, x12⟩, x13, -, x16, -, x18, x19⟩ := h0
  have him : ∀ y ∈ l, ¬ im y := fun y hy z => by have := hl y hy; have := x4 y z; omega
  have n : ∀ y, 84 ≤ y → y ≤ 103 → y ∉ l := fun y y1 y2 z => by have := hl y z; omega
  have nb2 : bh ∉ l := fun z => by have := hl bh z; omega
  exact h.step5 (gF.sE hE) (x1.eq hE) (fun y z => by have := hl y z; omega) (by rw [hE.2.2.2.2.1]) x7 sta.rf x9 x10 (x11.eq hE (n _ (by omega) (by omega)) him nb2 (n _ (by omega) (by omega)) (n _ (by omega) (by omega))) (kpX.of (hE.2.2.1 84 (n _ (by omega) (by omega)))) (Nat.le_refl _) (x13.eq hE (n _ (by omega) (by omega)) him (n _ (by omega) (by omega)) (n _ (by omega) (by omega)) (n _ (by omega) (by omega))) (congrFun (hE.2.2.1 94 (n _ (by omega) (by omega))) 1) (by unfold idR; rw [hE.2.2.2.2.1]; exact x16) (Nat.le_refl _) x18 x19
def tb_s_draw : List (Nat × Instr × Nat) := [(0, .aload_n 0, 1), (1, .ldc 239, 2), (3, .aload_n 0, 1), (4, .getfield 41, 3), (7, .imul, 1), (8, .sipush 12345, 3), (11, .iadd, 1), (12, .putfield 41, 3), (15, .iload_n 1, 1), (16, .iconst 1, 1), (17, .if_icmp .ge 7, 3), (20, .iconst 0, 1), (21, .goto 12, 3), (24, .aload_n 0, 1), (25, .getfield 41, 3), (28, .bipush 16, 2), (30, .iushr, 1), (31, .iload_n 1, 1), (32, .irem, 1), (33, .ireturn, 1)]
theorem tk_s_draw : ∀ q ∈ tb_s_draw, decode M_s_draw.2.1 q.1 = .ok q.2 := by decide +kernel
theorem c_s_draw {G : ab_G} {S : ab_S} (hx : xSh S) (x : Int32) (h6 : sI S 50 6 = x) (n : Nat) (hn0 : 0 < n) (hn : n ≤ 10) : ab_C G 0 M_s_draw [.ref 50, .int (nI n)] (sw S) (fun v w' => v = some (.int (nI (jU (jX x) % n))) ∧ w' = sw (pI S 50 6 (jX x))) := by
  refine x_enter [some (.ref 50), some (.int (nI n))] (by decide) (Nat.le_of_ble_eq_true rfl) rfl (fun v w' h => by obtain ⟨rfl, rfl⟩ := h; rfl) ?_
  have hju := jU_lt (jX x)
  refine x_aload_n 1 0 (ab_dd tk_s_draw 0 rfl) rfl rfl rfl ?_
  refine x_ldc 3 (ab_dd tk_s_draw 1 rfl) rfl C_s_239 (x_topn 1103515245 rfl ?_)
  refine x_aload_n 4 0 (ab_dd tk_s_draw 2 rfl) rfl rfl rfl ?_
  refine t_getI 7 (ab_dd tk_s_draw 3 rfl) rfl F_s_41 (by decide) (Nat.lt_of_lt_of_le (by decide) hx.1) (hx.2.1 0 (by decide)) rfl (x_topx x h6 ?_)
  refine x_imul 8 (ab_dd tk_s_draw 4 rfl) rfl ?_
  refine x_sipush 11 12345 (ab_dd tk_s_draw 5 rfl) rfl (by decide) (x_topn 12345 rfl ?_)
  refine x_iadd 12 (ab_dd tk_s_draw 6 rfl) rfl (x_topx (jX x) rfl ?_)
  refine t_putI 15 (ab_dd tk_s_draw 7 rfl) rfl F_s_41 (by decide) (Nat.lt_of_lt_of_le (by decide) hx.1) (hx.2.1 0 (by decide)) rfl rfl rfl ?_
  refine x_iload_n 16 1 (ab_dd tk_s_draw 8 rfl) rfl rfl rfl ?_
  refine x_iconst 17 1 (ab_dd tk_s_draw 9 rfl) rfl (by decide) (x_topn 1 rfl ?_)
  refine x_icmp_ge_t 24 (ab_dd tk_s_draw 10 rfl) (by decide) ((nI_leI (a := 1) (b := n) (by omega) (by omega)).mpr (show 1 ≤ n by omega)) ?_
  refine x_aload_n 25 0 (ab_dd tk_s_draw 13 rfl) rfl rfl rfl ?_
  refine t_getI 28 (ab_dd tk_s_draw 14 rfl) rfl F_s_41 (by decide) (Nat.lt_of_lt_of_le (by decide) hx.1) (hx.2.1 0 (by decide)) rfl (x_topx (jX x) gI_s ?_)
  refine x_bipush 30 16 (ab_dd tk_s_draw 15 rfl) rfl (by decide) (x_topn 16 rfl ?_)
  refine x_iushr 31 (ab_dd tk_s_draw 16 rfl) rfl (x_topn (jU (jX x)) (show _ = _ from jU_N (jX x)) ?_)
  refine x_iload_n 32 1 (ab_dd tk_s_draw 17 rfl) rfl rfl rfl ?_
  refine x_irem 33 (ab_dd tk_s_draw 18 rfl) rfl (nI_ne0 hn0 (by omega)) (x_topn ((jU (jX x)) % n) (pk_rem (by omega) (by omega) (by omega)) ?_)
  exact x_iret (ab_dd tk_s_draw 19 rfl) ⟨rfl, rfl⟩
def tb_s_deedDrawn : List (Nat × Instr × Nat) := [(0, .aload_n 0, 1), (1, .bipush 6, 2), (3, .invokevirtual 236, 3), (6, .tableswitch 65 3 5 #[26, 35, 45], 26), (32, .bipush 10, 2), (34, .aload_n 0, 1), (35, .iconst 4, 1), (36, .invokevirtual 236, 3), (39, .iadd, 1), (40, .ireturn, 1), (41, .bipush 20, 2), (43, .aload_n 0, 1), (44, .bipush 10, 2), (46, .invokevirtual 236, 3), (49, .iadd, 1), (50, .ireturn, 1), (51, .aload_n 0, 1), (52, .iconst 4, 1), (53, .invokevirtual 236, 3), (56, .istore_n 1, 1), (57, .bipush 100, 2), (59, .iload_n 1, 1), (60, .bipush 10, 2), (62, .imul, 1), (63, .iadd, 1), (64, .aload_n 0, 1), (65, .iconst 4, 1), (66, .invokevirtual 236, 3), (69, .iadd, 1), (70, .ireturn, 1), (71, .aload_n 0, 1), (72, .iconst 4, 1), (73, .invokevirtual 236, 3), (76, .ireturn, 1)]
theorem tk_s_deedDrawn : ∀ q ∈ tb_s_deedDrawn, decode M_s_deedDrawn.2.1 q.1 = .ok q.2 := by decide +kernel
theorem c_s_deedDrawn {G : ab_G} {S : ab_S} (hx : xSh S) (x : Int32) (h6 : sI S 50 6 = x) : ab_C G 1 M_s_deedDrawn [.ref 50] (sw S) (fun v w' => v = some (.int (nI (jDr x).1)) ∧ w' = sw (pI S 50 6 (jDr x).2)) := by
  refine x_enter [some (.ref 50), none] (by decide) (Nat.le_of_ble_eq_true rfl) rfl (fun v w' h => by obtain ⟨rfl, rfl⟩ := h; rfl) ?_
  have g6 : jU (jX x) % 6 < 6 := Nat.mod_lt _ (by decide)
  have g4 : jU (jX (jX x)) % 4 < 4 := Nat.mod_lt _ (by decide)
  have g4b : jU (jX (jX (jX x))) % 4 < 4 := Nat.mod_lt _ (by decide)
  have g10 : jU (jX (jX x)) % 10 < 10 := Nat.mod_lt _ (by decide)
  refine x_aload_n 1 0 (ab_dd tk_s_deedDrawn 0 rfl) rfl rfl rfl ?_
  refine x_bipush 3 6 (ab_dd tk_s_deedDrawn 1 rfl) rfl (by decide) (x_topn 6 rfl ?_)
  refine t_callV 6 M_s_draw 0 1 [_] (ab_dd tk_s_deedDrawn 2 rfl) rfl (by first | decide | omega) K_s_draw V_s_draw.1 V_s_draw.2 L_s_236 rfl (Nat.le_of_ble_eq_true rfl) (by decide) (Nat.lt_of_lt_of_le (by decide) hx.1) (hx.2.1 0 (by decide)) rfl (c_s_draw hx x h6 6 (by decide) (by decide)) (fun v1 w1 h1 => ?_)
  obtain ⟨rfl, rfl⟩ := h1
  have hxd1 : xSh (pI S 50 6 (jX x)) := xSh.eq hx (sEq.rf.pI (l := [50]) (List.mem_singleton.mpr rfl))
  by_cases hT6 : (3 : Int) ≤ Int32.toInt (nI (jU (jX x) % 6)) ∧ Int32.toInt (nI (jU (jX x) % 6)) ≤ (5 : Int)
  · have hc6 : Int32.toInt (nI (jU (jX x) % 6)) = (3 : Int) ∨ Int32.toInt (nI (jU (jX x) % 6)) = (4 : Int) ∨ Int32.toInt (nI (jU (jX x) % 6)) = (5 : Int) := by omega
    rcases hc6 with hc6 | hc6 | hc6
    · refine x_tableIn 32 (ab_dd tk_s_deedDrawn 3 rfl) (by omega) (by omega) (by rw [hc6]; rfl) (by decide) ?_
      refine x_bipush 34 10 (ab_dd tk_s_deedDrawn 4 rfl) rfl (by decide) (x_topn 10 rfl ?_)
      refine x_aload_n 35 0 (ab_dd tk_s_deedDrawn 5 rfl) rfl rfl rfl ?_
      refine x_iconst 36 4 (ab_dd tk_s_deedDrawn 6 rfl) rfl (by decide) (x_topn 4 rfl ?_)
      refine t_callV 39 M_s_draw 0 1 [_] (ab_dd tk_s_deedDrawn 7 rfl) rfl (by first | decide | omega) K_s_draw V_s_draw.1 V_s_draw.2 L_s_236 rfl (Nat.le_of_ble_eq_true rfl) (by decide) (Nat.lt_of_lt_of_le (by decide) hxd1.1) (hxd1.2.1 0 (by decide)) rfl (c_s_draw hxd1 (jX x) sI_pI 4 (by decide) (by decide)) (fun v1 w1 h1 => ?_)
      obtain ⟨rfl, rfl⟩ := h1
      have hxd2 : xSh (pI (pI S 50 6 (jX x)) 50 6 (jX (jX x))) := xSh.eq hxd1 (sEq.rf.pI (l := [50]) (List.mem_singleton.mpr rfl))
      refine x_iadd 40 (ab_dd tk_s_deedDrawn 8 rfl) rfl (x_topn (10 + (jU (jX (jX x)) % 4)) (nI_add _ _) ?_)
      have ek : jU (jX x) % 6 = 3 := (nI_eq (by omega) (by decide)).mp (of_toInt (hc6.trans (by decide)))
      have ej : jDr x = _ := (if_neg (by omega)).trans ((if_pos (by omega)).trans (if_pos ek))
      exact x_iret (ab_dd tk_s_deedDrawn 9 rfl) ⟨by rw [ej], by rw [ej]; simp only [pI_pI]⟩
    · refine x_tableIn 41 (ab_dd tk_s_deedDrawn 3 rfl) (by omega) (by omega) (by rw [hc6]; rfl) (by decide) ?_
      refine x_bipush 43 20 (ab_dd tk_s_deedDrawn 10 rfl) rfl (by decide) (x_topn 20 rfl ?_)
      refine x_aload_n 44 0 (ab_dd tk_s_deedDrawn 11 rfl) rfl rfl rfl ?_
      refine x_bipush 46 10 (ab_dd tk_s_deedDrawn 12 rfl) rfl (by decide) (x_topn 10 rfl ?_)
      refine t_callV 49 M_s_draw 0 1 [_] (ab_dd tk_s_deedDrawn 13 rfl) rfl (by first | decide | omega) K_s_draw V_s_draw.1 V_s_draw.2 L_s_236 rfl (Nat.le_of_ble_eq_true rfl) (by decide) (Nat.lt_of_lt_of_le (by decide) hxd1.1) (hxd1.2.1 0 (by decide)) rfl (c_s_draw hxd1 (jX x) sI_pI 10 (by decide) (by decide)) (fun v1 w1 h1 => ?_)
      obtain ⟨rfl, rfl⟩ := h1
      have hxd2 : xSh (pI (pI S 50 6 (jX x)) 50 6 (jX (jX x))) := xSh.eq hxd1 (sEq.rf.pI (l := [50]) (List.mem_singleton.mpr rfl))
      refine x_iadd 50 (ab_dd tk_s_deedDrawn 14 rfl) rfl (x_topn (20 + (jU (jX (jX x)) % 10)) (nI_add _ _) ?_)
      have ek : jU (jX x) % 6 = 4 := (nI_eq (by omega) (by decide)).mp (of_toInt (hc6.trans (by decide)))
      have ej : jDr x = _ := (if_neg (by omega)).trans ((if_pos (by omega)).trans (if_neg (by omega)))
      exact x_iret (ab_dd tk_s_deedDrawn 15 rfl) ⟨by rw [ej], by rw [ej]; simp only [pI_pI]⟩
    · refine x_tableIn 51 (ab_dd tk_s_deedDrawn 3 rfl) (by omega) (by omega) (by rw [hc6]; rfl) (by decide) ?_
      refine x_aload_n 52 0 (ab_dd tk_s_deedDrawn 16 rfl) rfl rfl rfl ?_
      refine x_iconst 53 4 (ab_dd tk_s_deedDrawn 17 rfl) rfl (by decide) (x_topn 4 rfl ?_)
      refine t_callV 56 M_s_draw 0 1 [_] (ab_dd tk_s_deedDrawn 18 rfl) rfl (by first | decide | omega) K_s_draw V_s_draw.1 V_s_draw.2 L_s_236 rfl (Nat.le_of_ble_eq_true rfl) (by decide) (Nat.lt_of_lt_of_le (by decide) hxd1.1) (hxd1.2.1 0 (by decide)) rfl (c_s_draw hxd1 (jX x) sI_pI 4 (by decide) (by decide)) (fun v1 w1 h1 => ?_)
      obtain ⟨rfl, rfl⟩ := h1
      have hxd2 : xSh (pI (pI S 50 6 (jX x)) 50 6 (jX (jX x))) := xSh.eq hxd1 (sEq.rf.pI (l := [50]) (List.mem_singleton.mpr rfl))
      refine x_istore_n 57 [some (.ref 50), some (.int (nI (jU (jX (jX x)) % 4)))] 1 (ab_dd tk_s_deedDrawn 19 rfl) rfl rfl (by decide) rfl ?_
      refine x_bipush 59 100 (ab_dd tk_s_deedDrawn 20 rfl) rfl (by decide) (x_topn 100 rfl ?_)
      refine x_iload_n 60 1 (ab_dd tk_s_deedDrawn 21 rfl) rfl rfl rfl ?_
      refine x_bipush 62 10 (ab_dd tk_s_deedDrawn 22 rfl) rfl (by decide) (x_topn 10 rfl ?_)
      refine x_imul 63 (ab_dd tk_s_deedDrawn 23 rfl) rfl (x_topn ((jU (jX (jX x)) % 4) * 10) (pk_mul _ _) ?_)
      refine x_iadd 64 (ab_dd tk_s_deedDrawn 24 rfl) rfl (x_topn (100 + ((jU (jX (jX x)) % 4) * 10)) (nI_add _ _) ?_)
      refine x_aload_n 65 0 (ab_dd tk_s_deedDrawn 25 rfl) rfl rfl rfl ?_
      refine x_iconst 66 4 (ab_dd tk_s_deedDrawn 26 rfl) rfl (by decide) (x_topn 4 rfl ?_)
      refine t_callV 69 M_s_draw 0 1 [_] (ab_dd tk_s_deedDrawn 27 rfl) rfl (by first | decide | omega) K_s_draw V_s_draw.1 V_s_draw.2 L_s_236 rfl (Nat.le_of_ble_eq_true rfl) (by decide) (Nat.lt_of_lt_of_le (by decide) hxd2.1) (hxd2.2.1 0 (by decide)) rfl (c_s_draw hxd2 (jX (jX x)) sI_pI 4 (by decide) (by decide)) (fun v1 w1 h1 => ?_)
      obtain ⟨rfl, rfl⟩ := h1
      have hxd3 : xSh (pI (pI (pI S 50 6 (jX x)) 50 6 (jX (jX x))) 50 6 (jX (jX (jX x)))) := xSh.eq hxd2 (sEq.rf.pI (l := [50]) (List.mem_singleton.mpr rfl))
      refine x_iadd 70 (ab_dd tk_s_deedDrawn 28 rfl) rfl (x_topn ((100 + ((jU (jX (jX x)) % 4) * 10)) + (jU (jX (jX (jX x))) % 4)) (nI_add _ _) ?_)
      have ek : jU (jX x) % 6 = 5 := (nI_eq (by omega) (by decide)).mp (of_toInt (hc6.trans (by decide)))
      have ej : jDr x = _ := (if_neg (by omega)).trans (if_neg (by omega))
      exact x_iret (ab_dd tk_s_deedDrawn 29 rfl) ⟨by rw [ej]; show some (Value.int (nI _)) = some (Value.int (nI _)); rw [Nat.mul_comm], by rw [ej]; simp only [pI_pI]⟩
  · refine x_tableOut 71 (ab_dd tk_s_deedDrawn 3 rfl) (by omega) (by decide) ?_
    refine x_aload_n 72 0 (ab_dd tk_s_deedDrawn 30 rfl) rfl rfl rfl ?_
    refine x_iconst 73 4 (ab_dd tk_s_deedDrawn 31 rfl) rfl (by decide) (x_topn 4 rfl ?_)
    refine t_callV 76 M_s_draw 0 1 [_] (ab_dd tk_s_deedDrawn 32 rfl) rfl (by first | decide | omega) K_s_draw V_s_draw.1 V_s_draw.2 L_s_236 rfl (Nat.le_of_ble_eq_true rfl) (by decide) (Nat.lt_of_lt_of_le (by decide) hxd1.1) (hxd1.2.1 0 (by decide)) rfl (c_s_draw hxd1 (jX x) sI_pI 4 (by decide) (by decide)) (fun v1 w1 h1 => ?_)
    obtain ⟨rfl, rfl⟩ := h1
    have hxd2 : xSh (pI (pI S 50 6 (jX x)) 50 6 (jX (jX x))) := xSh.eq hxd1 (sEq.rf.pI (l := [50]) (List.mem_singleton.mpr rfl))
    have ek : jU (jX x) % 6 < 3 := by
      rcases (by omega : jU (jX x) % 6 < 3 ∨ jU (jX x) % 6 = 3 ∨ jU (jX x) % 6 = 4 ∨ jU (jX x) % 6 = 5) with z | z | z | z
      · exact z
      · exact absurd (by rw [z]; decide) hT6
      · exact absurd (by rw [z]; decide) hT6
      · exact absurd (by rw [z]; decide) hT6
    have ej : jDr x = _ := if_pos ek
    exact x_iret (ab_dd tk_s_deedDrawn 33 rfl) ⟨by rw [ej], by rw [ej]; simp only [pI_pI]⟩
theorem jo_step {a : Nat → Int32} {x : Int32} (k : Nat) : aJo a x (k + 1) = (if aWy (aJo a x k).2.1 (lN (jDr (aJo a x k).2.2).1) = 0 then (aJo a x k).1 + 1 else (aJo a x k).1, aft (aJo a x k).2.1 (lN (jDr (aJo a x k).2.2).1), (jDr (aJo a x k).2.2).2) := by
  have hl := jDr_le (aJo a x k).2.2
  unfold aft
  rw [jW_N (by omega), aWy_N hl]
  show (if _ then _ else _) = _
  split <;> rfl
def tb_s_journey : List (Nat × Instr × Nat) := [(0, .iload_n 2, 1), (1, .iconst 1, 1), (2, .if_icmp .lt 9, 3), (5, .iload_n 2, 1), (6, .bipush 40, 2), (8, .if_icmp .le 6, 3), (11, .bipush (-3), 2), (13, .ireturn, 1), (14, .aload_n 0, 1), (15, .getfield 31, 3), (18, .aload_n 0, 1), (19, .getfield 27, 3), (22, .invokevirtual 217, 3), (25, .aload_n 0, 1), (26, .iload_n 1, 1), (27, .putfield 41, 3), (30, .iconst 0, 1), (31, .istore_n 3, 1), (32, .iconst 0, 1), (33, .istore 4, 2), (35, .iload 4, 2), (37, .iload_n 2, 1), (38, .if_icmp .ge 32, 3), (41, .aload_n 0, 1), (42, .aload_n 0, 1), (43, .getfield 77, 3), (46, .aload_n 0, 1), (47, .getfield 27, 3), (50, .aload_n 0, 1), (51, .invokevirtual 232, 3), (54, .i2l, 1), (55, .invokevirtual 198, 3), (58, .ifCond .ne 6, 3), (61, .iinc 3 1, 3), (64, .iinc 4 1, 3), (67, .goto (-32), 3), (70, .iload_n 3, 1), (71, .ifCond .le 14, 3), (74, .aload_n 0, 1), (75, .getfield 37, 3), (78, .aload_n 0, 1), (79, .getfield 31, 3), (82, .invokevirtual 194, 3), (85, .iload_n 3, 1), (86, .ireturn, 1)]
theorem tk_s_journey : ∀ q ∈ tb_s_journey, decode M_s_journey.2.1 q.1 = .ok q.2 := by decide +kernel
theorem p_s_journey {G : ab_G} {S : ab_S} {im : Nat → Prop} {a b : Nat → Int32} {c bh nb st st2 u : Nat} (h : kBd S im a c b bh nb st st2 u) (ht : sdE S 55 (rowT a)) (hu : u + 64 < 2 ^ 20) {n s : Nat} {f : Nat → sT} (hp : paI S n s f) (x e : Int32) : ab_C G 7 M_s_journey [.ref 50, .int x, .int e] (sw S) (fun v w' => (¬ (1 ≤ e ∧ e ≤ 40) ∧ pDe S im a c bh nb st2 u n s f (some (.int (-3))) a False v w') ∨ ((1 ≤ e ∧ e ≤ 40) ∧ v = some (.int (nI (aJo a x (cN e)).1)) ∧ ∃ S' b' st', w' = sw S' ∧ sEq (50 :: dL bh) S S' ∧ (∀ k, k ≠ 6 → sI S' 50 k = sI S 50 k) ∧ kBd S' im (aJo a x (cN e)).2.1 c b' bh nb st' st2 (u + 64) ∧ sdE S' 55 (rowT (aJo a x (cN e)).2.1) ∧ ((0 < (aJo a x (cN e)).1) → paI S' ((n + 1) % 10) (if s + 1 ≤ 10 then s + 1 else 10) (up1 f n (rowT a))) ∧ (¬ (0 < (aJo a x (cN e)).1) → paI S' n s f))) := by
  refine x_enter [some (.ref 50), some (.int x), some (.int e), none, none] (by decide) (Nat.le_of_ble_eq_true rfl) rfl (fun v w' h => by rcases h with ⟨-, rfl, -⟩ | ⟨-, rfl, -⟩ <;> rfl) ?_
  have hbh := h.bh.1
  have h0 := h
  obtain ⟨hx, hse, kc, ⟨him, hil, h145⟩, ha, hc, ⟨hb1, hb2, hcl, hnb⟩, hcl9, -, hid, -, hu1, hu2⟩ := h0
  have h40 : sI S 55 3 = a 40 := ht.2.2.2.1.trans ha.1.m40.1.symm
  have hca := hcl.1.sta hb2.sy
  obtain ⟨hk, c1, -⟩ := hca
  have hR := ha.1.R.2
  have h50 : 50 ≤ sn S := by omega
  have hw6 : aW a < 625 := by have := (rowT_in ha.1).2.1; have := p5_6 hR; omega
  have hsl := seaC_lt ha.1
  refine x_iload_n 1 2 (ab_dd tk_s_journey 0 rfl) rfl rfl rfl ?_
  refine x_iconst 2 1 (ab_dd tk_s_journey 1 rfl) rfl (by decide) (x_topn 1 rfl ?_)
  refine x_icmp_lt 5 11 (ab_dd tk_s_journey 2 rfl) rfl (by decide) (fun h2 => ?_) (fun h2 => ?_)
  · refine x_bipush 13 (-3) (ab_dd tk_s_journey 6 rfl) rfl (by decide) ?_
    exact x_iret (ab_dd tk_s_journey 7 rfl) (Or.inl ⟨fun z => absurd h2 (Int32.not_lt.mpr z.1), ⟨rfl, S, b, st, rfl, sEq.rf, h.up (by omega), ht, fun z => z.elim, fun _ => hp⟩⟩)
  · refine x_iload_n 6 2 (ab_dd tk_s_journey 3 rfl) rfl rfl rfl ?_
    refine x_bipush 8 40 (ab_dd tk_s_journey 4 rfl) rfl (by decide) (x_topn 40 rfl ?_)
    refine x_icmp_le 11 14 (ab_dd tk_s_journey 5 rfl) rfl (by decide) (fun h8 => ?_) (fun h8 => ?_)
    · have hdd : 1 ≤ e ∧ e ≤ 40 := ⟨Int32.not_lt.mp h2, h8⟩
      obtain ⟨q, hq, ekq, enq⟩ := in_get (n := 40) (by decide) ⟨Int32.le_trans (by decide) hdd.1, hdd.2⟩
      rw [show some (Value.int e) = some (Value.int (nI q)) by rw [ekq], enq]
      refine x_aload_n 15 0 (ab_dd tk_s_journey 8 rfl) rfl rfl rfl ?_
      refine t_getP 18 56 (ab_dd tk_s_journey 9 rfl) rfl F_s_31 (by decide) (Nat.lt_of_lt_of_le (by decide) hx.1) (hx.2.1 0 (by decide)) rfl (hx.2.2 (50, 4, 56) (by decide)) ?_
      refine x_aload_n 19 0 (ab_dd tk_s_journey 10 rfl) rfl rfl rfl ?_
      refine t_getP 22 55 (ab_dd tk_s_journey 11 rfl) rfl F_s_27 (by decide) (Nat.lt_of_lt_of_le (by decide) hx.1) (hx.2.1 0 (by decide)) rfl (hx.2.2 (50, 3, 55) (by decide)) ?_
      refine t_callV 25 M_sd_copy 0 1 [_] (ab_dd tk_s_journey 12 rfl) rfl (by first | decide | omega) K_sd_copy V_sd_copy.1 V_sd_copy.2 L_s_217 rfl (Nat.le_of_ble_eq_true rfl) (by decide) (Nat.lt_of_lt_of_le (by decide) hx.1) (hx.2.1 6 (by decide)) rfl (c_sd_copy (show sdK S 56 from x_55 hx (by decide)) (show sdK S 55 from x_55 hx (by decide)) (by decide) ht) (fun v1 w1 h1 => ?_)
      obtain ⟨rfl, S1, rfl, hE1, ht1⟩ := h1
      have hB1 := h.se hE1 (fun y hy => by simp only [List.mem_cons, List.not_mem_nil, or_false] at hy; omega)
      have hx1 : xSh S1 := hB1.1
      have hn1 : sdE S1 55 (rowT a) := ht.eq hE1 (by simp only [List.mem_cons, List.not_mem_nil, or_false, not_or]; omega)
      refine x_aload_n 26 0 (ab_dd tk_s_journey 13 rfl) rfl rfl rfl ?_
      refine x_iload_n 27 1 (ab_dd tk_s_journey 14 rfl) rfl rfl rfl ?_
      refine t_putI 30 (ab_dd tk_s_journey 15 rfl) rfl F_s_41 (by decide) (Nat.lt_of_lt_of_le (by decide) hx1.1) (hx1.2.1 0 (by decide)) rfl rfl rfl ?_
      refine x_iconst 31 0 (ab_dd tk_s_journey 16 rfl) rfl (by decide) (x_topn 0 rfl ?_)
      refine x_istore_n 32 [some (.ref 50), some (.int x), some (.int (nI q)), some (.int (nI 0)), none] 3 (ab_dd tk_s_journey 17 rfl) rfl rfl (by decide) rfl ?_
      refine x_iconst 33 0 (ab_dd tk_s_journey 18 rfl) rfl (by decide) (x_topn 0 rfl ?_)
      refine x_istore 35 [some (.ref 50), some (.int x), some (.int (nI q)), some (.int (nI 0)), some (.int (nI 0))] 4 (ab_dd tk_s_journey 19 rfl) rfl (by decide) rfl ?_
      have hE0p : sEq [50] S1 (pI S1 50 6 x) := sEq.rf.pI (List.mem_singleton.mpr rfl)
      have hBp := hB1.se5 hE0p (fun y hy => by simp only [List.mem_cons, List.not_mem_nil, or_false] at hy; omega)
      have hnp : sdE (pI S1 50 6 x) 55 (rowT a) := hn1.eq hE0p (by simp only [List.mem_cons, List.not_mem_nil, or_false, not_or]; omega)
      have loop : ∀ (m k : Nat), k + m = q → ∀ (S2 : ab_S) (b2 : Nat → Int32) (s2 : Nat), kBd S2 im (aJo a x k).2.1 c b2 bh nb s2 st2 (u + k) → sEq [50, 84, 89, 90, 91, 92, 93, bh, 55] S1 S2 → (∀ k, k ≠ 6 → sI S2 50 k = sI S1 50 k) → sI S2 50 6 = (aJo a x k).2.2 → sdE S2 55 (rowT (aJo a x k).2.1) → ab_Ex G 7 M_s_journey 35 [some (.ref 50), some (.int x), some (.int (nI q)), some (.int (nI (aJo a x k).1)), some (.int (nI k))] [] (sw S2) (fun v w' => (¬ (1 ≤ e ∧ e ≤ 40) ∧ pDe S im a c bh nb st2 u n s f (some (.int (-3))) a False v w') ∨ ((1 ≤ e ∧ e ≤ 40) ∧ v = some (.int (nI (aJo a x q).1)) ∧ ∃ S' b' st', w' = sw S' ∧ sEq (50 :: dL bh) S S' ∧ (∀ k, k ≠ 6 → sI S' 50 k = sI S 50 k) ∧ kBd S' im (aJo a x q).2.1 c b' bh nb st' st2 (u + 64) ∧ sdE S' 55 (rowT (aJo a x q).2.1) ∧ ((0 < (aJo a x q).1) → paI S' ((n + 1) % 10) (if s + 1 ≤ 10 then s + 1 else 10) (up1 f n (rowT a))) ∧ (¬ (0 < (aJo a x q).1) → paI S' n s f))) := by
        intro m
        induction m with
        | zero =>
          intro k hk S2 b2 s2 hB2 hE2 h502 h62 hn2
          have hkq : k = q := by omega
          rw [hkq] at hB2 hn2 ⊢
          have hx2 : xSh S2 := hB2.1
          have ht2 : sdE S2 56 (rowT a) := ht1.eq hE2 (by simp only [List.mem_cons, List.not_mem_nil, or_false, not_or]; omega)
          have hp2 : paI S2 n s f := (hp.eq hE1 (fun y y1 y2 => (by simp only [List.mem_cons, List.not_mem_nil, or_false, not_or]; omega))).eq hE2 (fun y y1 y2 => (by simp only [List.mem_cons, List.not_mem_nil, or_false, not_or]; omega))
          have hEa : sEq (50 :: dL bh) S S2 := (hE1.mono (fun y hy => by simp only [dL, List.mem_cons, List.not_mem_nil, or_false] at hy ⊢; omega)).tr (hE2.mono (fun y hy => by simp only [dL, List.mem_cons, List.not_mem_nil, or_false] at hy ⊢; omega))
          have e50 : ∀ k, k ≠ 6 → sI S2 50 k = sI S 50 k := fun k z => (h502 k z).trans (congrFun (hE1.2.2.1 50 (by simp only [List.mem_cons, List.not_mem_nil, or_false, not_or]; omega)) k)
          have hle := (aJo_ok ha.1 x q).2.2.2.1
          refine x_iload 37 4 (ab_dd tk_s_journey 20 rfl) rfl rfl ?_
          refine x_iload_n 38 2 (ab_dd tk_s_journey 21 rfl) rfl rfl rfl ?_
          refine x_icmp_ge_t 70 (ab_dd tk_s_journey 22 rfl) (by decide) ((nI_leI (a := q) (b := q) (by omega) (by omega)).mpr (show q ≤ q by omega)) ?_
          refine x_iload_n 71 3 (ab_dd tk_s_journey 36 rfl) rfl rfl rfl ?_
          refine xn_if_le 74 85 (ab_dd tk_s_journey 37 rfl) rfl (by decide) (by omega) (fun h71 => ?_) (fun h71 => ?_)
          · refine x_iload_n 86 3 (ab_dd tk_s_journey 43 rfl) rfl rfl rfl ?_
            exact x_iret (ab_dd tk_s_journey 44 rfl) (Or.inr ⟨by first | exact hdd | (rw [← ekq]; exact hdd), rfl, S2, b2, s2, rfl, hEa, e50, hB2.up (by omega), hn2, fun z => absurd z (by omega), fun _ => hp2⟩)
          · refine x_aload_n 75 0 (ab_dd tk_s_journey 38 rfl) rfl rfl rfl ?_
            refine t_getP 78 57 (ab_dd tk_s_journey 39 rfl) rfl F_s_37 (by decide) (Nat.lt_of_lt_of_le (by decide) hx2.1) (hx2.2.1 0 (by decide)) rfl (hx2.2.2 (50, 5, 57) (by decide)) ?_
            refine x_aload_n 79 0 (ab_dd tk_s_journey 40 rfl) rfl rfl rfl ?_
            refine t_getP 82 56 (ab_dd tk_s_journey 41 rfl) rfl F_s_31 (by decide) (Nat.lt_of_lt_of_le (by decide) hx2.1) (hx2.2.1 0 (by decide)) rfl (hx2.2.2 (50, 4, 56) (by decide)) ?_
            refine t_callV 85 M_pa_keep 1 1 [_] (ab_dd tk_s_journey 42 rfl) rfl (by first | decide | omega) K_pa_keep V_pa_keep.1 V_pa_keep.2 L_s_194 rfl (Nat.le_of_ble_eq_true rfl) (by decide) (Nat.lt_of_lt_of_le (by decide) hx2.1) (hx2.2.1 7 (by decide)) rfl (c_pa_keep hx2 hp2 (show sdK S2 56 from x_55 hx2 (by decide)) (Or.inl (by decide)) ht2) (fun v1 w1 h1 => ?_)
            obtain ⟨rfl, S3, rfl, hE3, hp3⟩ := h1
            have hB3 := hB2.se hE3 (fun y hy => by simp only [List.mem_cons, List.not_mem_nil, or_false] at hy; omega)
            have hx3 : xSh S3 := hB3.1
            refine x_iload_n 86 3 (ab_dd tk_s_journey 43 rfl) rfl rfl rfl ?_
            exact x_iret (ab_dd tk_s_journey 44 rfl) (Or.inr ⟨by first | exact hdd | (rw [← ekq]; exact hdd), rfl, S3, b2, s2, rfl, hEa.tr (hE3.mono (fun y hy => by simp only [dL, List.mem_cons, List.not_mem_nil, or_false] at hy ⊢; omega)), fun k z => (congrFun (hE3.2.2.1 50 (by simp only [List.mem_cons, List.not_mem_nil, or_false, not_or]; omega)) k).trans (e50 k z), hB3.up (by omega), hn2.eq hE3 (by simp only [List.mem_cons, List.not_mem_nil, or_false, not_or]; omega), fun _ => hp3, fun z => absurd z (by omega)⟩)
        | succ m ih =>
          intro k hk S2 b2 s2 hB2 hE2 h502 h62 hn2
          have hx2 : xSh S2 := hB2.1
          have hjl := jDr_le (aJo a x k).2.2
          have hle := (aJo_ok ha.1 x k).2.2.2.1
          refine x_iload 37 4 (ab_dd tk_s_journey 20 rfl) rfl rfl ?_
          refine x_iload_n 38 2 (ab_dd tk_s_journey 21 rfl) rfl rfl rfl ?_
          refine x_icmp_ge_f 41 (ab_dd tk_s_journey 22 rfl) rfl 70 (by decide) (fun z => absurd ((nI_leI (a := q) (b := k) (by omega) (by omega)).mp z) (show ¬ (q ≤ k) by omega)) ?_
          refine x_aload_n 42 0 (ab_dd tk_s_journey 23 rfl) rfl rfl rfl ?_
          refine x_aload_n 43 0 (ab_dd tk_s_journey 24 rfl) rfl rfl rfl ?_
          refine t_getP 46 84 (ab_dd tk_s_journey 25 rfl) rfl F_s_77 (by decide) (Nat.lt_of_lt_of_le (by decide) hx2.1) (hx2.2.1 0 (by decide)) rfl (hx2.2.2 (50, 12, 84) (by decide)) ?_
          refine x_aload_n 47 0 (ab_dd tk_s_journey 26 rfl) rfl rfl rfl ?_
          refine t_getP 50 55 (ab_dd tk_s_journey 27 rfl) rfl F_s_27 (by decide) (Nat.lt_of_lt_of_le (by decide) hx2.1) (hx2.2.1 0 (by decide)) rfl (hx2.2.2 (50, 3, 55) (by decide)) ?_
          refine x_aload_n 51 0 (ab_dd tk_s_journey 28 rfl) rfl rfl rfl ?_
          refine t_callV 54 M_s_deedDrawn 1 0 [] (ab_dd tk_s_journey 29 rfl) rfl (by first | decide | omega) K_s_deedDrawn V_s_deedDrawn.1 V_s_deedDrawn.2 L_s_232 rfl (Nat.le_of_ble_eq_true rfl) (by decide) (Nat.lt_of_lt_of_le (by decide) hx2.1) (hx2.2.1 0 (by decide)) rfl (c_s_deedDrawn hx2 (aJo a x k).2.2 h62) (fun v1 w1 h1 => ?_)
          obtain ⟨rfl, rfl⟩ := h1
          have hE3 : sEq [50] S2 (pI S2 50 6 (jDr (aJo a x k).2.2).2) := sEq.rf.pI (List.mem_singleton.mpr rfl)
          have hB3 := hB2.se5 hE3 (fun y hy => by simp only [List.mem_cons, List.not_mem_nil, or_false] at hy; omega)
          have hx3 := hB3.1
          have hn3 := hn2.eq hE3 (by simp only [List.mem_cons, List.not_mem_nil, or_false, not_or]; omega)
          refine x_i2l 55 (ab_dd tk_s_journey 30 rfl) rfl (x_topL (lN ((jDr (aJo a x k).2.2).1)) (nI_l (by omega)) ?_)
          refine t_callV 58 M_s_act 5 3 [_, _, _] (ab_dd tk_s_journey 31 rfl) rfl (by first | decide | omega) K_s_act V_s_act.1 V_s_act.2 L_s_198 rfl (Nat.le_of_ble_eq_true rfl) (by decide) (Nat.lt_of_lt_of_le (by decide) hx3.1) (hx3.2.1 0 (by decide)) rfl (b_s_act hB3 hn3 (by omega) (lN (jDr (aJo a x k).2.2).1)) (fun v1 w1 h1 => ?_)
          obtain ⟨rfl, S4, b4, s4, rfl, hE4, hB4, hn4⟩ := h1
          have hY := aWy_lt (a := (aJo a x k).2.1) (v := lN (jDr (aJo a x k).2.2).1)
          have hx4 : xSh S4 := hB4.1
          have e504 : sI S4 50 = _ := hE4.2.2.1 50 (by simp only [List.mem_cons, List.not_mem_nil, or_false, not_or]; omega)
          have f504 : ∀ k, k ≠ 6 → sI S4 50 k = sI S1 50 k := fun k z => by rw [e504]; exact (gI_k z).trans (h502 k z)
          have ejo := jo_step (a := a) (x := x) k
          have g64 : sI S4 50 6 = (aJo a x (k + 1)).2.2 := by rw [e504, ejo]; exact gI_s
          have hB5 : kBd S4 im (aJo a x (k + 1)).2.1 c b4 bh nb s4 st2 (u + (k + 1)) := by rw [ejo]; exact hB4
          have hn5 : sdE S4 55 (rowT (aJo a x (k + 1)).2.1) := by rw [ejo]; exact hn4
          have hE5 : sEq [50, 84, 89, 90, 91, 92, 93, bh, 55] S1 S4 := hE2.tr ((hE3.mono (fun y hy => by simp only [List.mem_cons, List.not_mem_nil, or_false] at hy ⊢; omega)).tr (hE4.mono (fun y hy => by simp only [List.mem_cons, List.not_mem_nil, or_false] at hy ⊢; omega)))
          refine xn_if_ne 61 64 (ab_dd tk_s_journey 32 rfl) rfl (by decide) (by omega) (fun h58 => ?_) (fun h58 => ?_)
          · refine xn_iinc 67 4 (fun y => [some (.ref 50), some (.int x), some (.int (nI q)), some (.int (nI (aJo a x k).1)), some (.int y)]) (k + 1) (ab_dd tk_s_journey 34 rfl) rfl (by decide) rfl (fun _ => rfl) (iinc_p 1) ?_
            refine x_goto 35 (ab_dd tk_s_journey 35 rfl) (by decide) ?_
            have e1 : (aJo a x (k + 1)).1 = (aJo a x k).1 := by rw [ejo]; exact if_neg (by omega)
            have ih2 := ih (k + 1) (by omega) S4 b4 s4 hB5 hE5 f504 g64 hn5
            rw [e1] at ih2
            exact ih2
          · refine xn_iinc 64 3 (fun y => [some (.ref 50), some (.int x), some (.int (nI q)), some (.int y), some (.int (nI k))]) ((aJo a x k).1 + 1) (ab_dd tk_s_journey 33 rfl) rfl (by decide) rfl (fun _ => rfl) (iinc_p 1) ?_
            refine xn_iinc 67 4 (fun y => [some (.ref 50), some (.int x), some (.int (nI q)), some (.int (nI ((aJo a x k).1 + 1))), some (.int y)]) (k + 1) (ab_dd tk_s_journey 34 rfl) rfl (by decide) rfl (fun _ => rfl) (iinc_p 1) ?_
            refine x_goto 35 (ab_dd tk_s_journey 35 rfl) (by decide) ?_
            have e1 : (aJo a x (k + 1)).1 = (aJo a x k).1 + 1 := by rw [ejo]; exact if_pos h58
            have ih2 := ih (k + 1) (by omega) S4 b4 s4 hB5 hE5 f504 g64 hn5
            rw [e1] at ih2
            exact ih2
      exact loop q 0 (by omega) (pI S1 50 6 x) b st hBp (hE0p.mono (fun y hy => by simp only [List.mem_cons, List.not_mem_nil, or_false] at hy ⊢; omega)) (fun k z => gI_k z) gI_s hnp
    · refine x_bipush 13 (-3) (ab_dd tk_s_journey 6 rfl) rfl (by decide) ?_
      exact x_iret (ab_dd tk_s_journey 7 rfl) (Or.inl ⟨fun z => h8 z.2, ⟨rfl, S, b, st, rfl, sEq.rf, h.up (by omega), ht, fun z => z.elim, fun _ => hp⟩⟩)
