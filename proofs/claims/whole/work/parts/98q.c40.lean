/-! ===== Arrays.copyOf, a law read ===== -/
def pRow (S : ab_S) (a : Nat) (F : Nat → Int32) : ab_S := (S.1, sK S, up1 (sI S) a F, sJ S, sP S, sn S, sz S)
theorem t_copy {G : ab_G} {d : Nat} {M : ab_M} {pc : Nat} {ls : ab_L} {S : ab_S} {Q : Option Value → ab_H → Prop} (pc' k : Nat) {i a0 a1 n0 n1 : Nat} (hd : decode M.2.1 pc = .ok (.invokestatic i, 3)) (hp : pc + 3 = pc') (hdd : 1 ≤ d) (hlink : Cond.methodLink M.1.cls i arraycopyName ∈ ab_good) (ha0 : 50 ≤ a0) (hn0 : a0 < sn S) (hK0 : sK S a0 = .inl (.int, n0)) (ha1 : 50 ≤ a1) (hn1 : a1 < sn S) (hK1 : sK S a1 = .inl (.int, n1)) (hk0 : k ≤ n0) (hk1 : k ≤ n1) (hk : k < 2 ^ 31) (h : ab_Ex G d M pc' ls [] (sw (pRow S a1 (fun j => if j < k then sI S a0 j else sI S a1 j))) Q) : ab_Ex G d M pc ls [.int (nI k), .int (nI 0), .ref a1, .int (nI 0), .ref a0] (sw S) Q := by
  refine x_copy pc' k hd hp hdd hlink Y_nat Y_stat Y_ini ha0 (by rw [sw_get ha0 hn0, s_cellI hK0]) ha1 (by rw [sw_get ha1 hn1, s_cellI hK1]) hk0 hk1 hk ?_
  rw [sw_set (S := S) (S' := pRow S a1 (fun j => if j < k then sI S a0 j else sI S a1 j)) ha1 rfl rfl rfl ?_ (fun b hb => ab_cell_o rfl (up1_o hb) rfl rfl)]
  · exact h
  · rw [s_cellI (S := pRow S a1 _) hK1]
    show Sum.inl (FieldType.int, n1, Sum.inl (up1 (sI S) a1 _ a1)) = _
    rw [up1_s]
    congr 4
    funext j
    unfold va_cpy
    by_cases z : j < k
    · rw [if_pos z, if_pos ⟨Nat.zero_le _, by omega⟩, Nat.zero_add, Nat.sub_zero]
    · rw [if_neg z, if_neg (by omega)]
def tb_jA_copyOf : List (Nat × Instr × Nat) := [(0, .iload_n 1, 1), (1, .aload_n 0, 1), (2, .arraylength, 1), (3, .if_icmp .ne 11, 3), (6, .aload_n 0, 1), (7, .invokevirtual 316, 3), (10, .checkcast 317, 3), (13, .areturn, 1), (14, .iload_n 1, 1), (15, .newarray .int, 2), (17, .astore_n 2, 1), (18, .aload_n 0, 1), (19, .iconst 0, 1), (20, .aload_n 2, 1), (21, .iconst 0, 1), (22, .aload_n 0, 1), (23, .arraylength, 1), (24, .iload_n 1, 1), (25, .invokestatic 304, 3), (28, .invokestatic 150, 3), (31, .aload_n 2, 1), (32, .areturn, 1)]
theorem tk_jA_copyOf : ∀ q ∈ tb_jA_copyOf, decode M_jA_copyOf.2.1 q.1 = .ok q.2 := by decide +kernel
theorem c_jA_copyOf {G : ab_G} {S : ab_S} {b n : Nat} (h50 : 50 ≤ sn S) (hb : 50 ≤ b) (hbn : b < sn S) (hbK : sK S b = .inl (.int, n)) (hn31 : n < 2 ^ 26) (k : Nat) (hk : k < n) : ab_C G 1 M_jA_copyOf [.ref b, .int (nI k)] (sw S) (fun v w' => v = some (.ref (sn S)) ∧ ∃ S', w' = sw S' ∧ grE S S' 1 k ∧ sK S' (sn S) = .inl (.int, k) ∧ ∀ j, j < k → sI S' (sn S) j = sI S b j) := by
  refine x_enter [some (.ref b), some (.int (nI k)), none] (by decide) (Nat.le_of_ble_eq_true rfl) rfl (fun v w' h => by obtain ⟨rfl, -⟩ := h; trivial) ?_
  refine x_iload_n 1 1 (ab_dd tk_jA_copyOf 0 rfl) rfl rfl rfl ?_
  refine x_aload_n 2 0 (ab_dd tk_jA_copyOf 1 rfl) rfl rfl rfl ?_
  refine t_alen 3 0 (ab_dd tk_jA_copyOf 2 rfl) rfl hb hbn rfl hbK ?_
  refine x_icmp_ne_t 14 (ab_dd tk_jA_copyOf 3 rfl) (by decide) (fun z => absurd ((nI_eq (a := k) (b := n) (by omega) (by omega)).mp z) (show ¬ (k = n) by omega)) ?_
  refine x_iload_n 15 1 (ab_dd tk_jA_copyOf 8 rfl) rfl rfl rfl ?_
  refine t_newI 17 k (ab_dd tk_jA_copyOf 9 rfl) rfl (show 50 ≤ sn S + 0 by omega) A_int rfl (by omega) ?_
  refine x_astore_n 18 [some (.ref b), some (.int (nI k)), some (.ref (sn S))] 2 (ab_dd tk_jA_copyOf 10 rfl) rfl rfl (by decide) rfl ?_
  refine x_aload_n 19 0 (ab_dd tk_jA_copyOf 11 rfl) rfl rfl rfl ?_
  refine x_iconst 20 0 (ab_dd tk_jA_copyOf 12 rfl) rfl (by decide) (x_topn 0 rfl ?_)
  refine x_aload_n 21 2 (ab_dd tk_jA_copyOf 13 rfl) rfl rfl rfl ?_
  refine x_iconst 22 0 (ab_dd tk_jA_copyOf 14 rfl) rfl (by decide) (x_topn 0 rfl ?_)
  refine x_aload_n 23 0 (ab_dd tk_jA_copyOf 15 rfl) rfl rfl rfl ?_
  refine t_alen 24 0 (ab_dd tk_jA_copyOf 16 rfl) rfl hb (Nat.lt_succ_of_lt hbn) rfl ((up1_o (Nat.ne_of_lt hbn)).trans hbK) ?_
  refine x_iload_n 25 1 (ab_dd tk_jA_copyOf 17 rfl) rfl rfl rfl ?_
  refine x_callS 28 M_jM_min 0 2 [_, _] (ab_dd tk_jA_copyOf 18 rfl) rfl (by first | decide | omega) K_jM_min T_jM_min L_jA_304 rfl (Nat.le_of_ble_eq_true rfl) (w_min _ n k (by omega) (by omega)) (fun v1 w1 h1 => ?_)
  obtain ⟨rfl, rfl⟩ := h1
  rw [if_neg (show ¬ n ≤ k by omega)]
  refine t_copy 31 k (ab_dd tk_jA_copyOf 19 rfl) rfl (by omega) Y_link hb (Nat.lt_succ_of_lt hbn) ((up1_o (Nat.ne_of_lt hbn)).trans hbK) h50 (Nat.lt_succ_self _) up1_s (by omega) (Nat.le_refl _) (by omega) ?_
  refine x_aload_n 32 2 (ab_dd tk_jA_copyOf 20 rfl) rfl rfl rfl ?_
  refine x_aret (ab_dd tk_jA_copyOf 21 rfl) ⟨rfl, _, rfl, ⟨rfl, rfl, rfl, fun q hq => ⟨gK_n (kd := .inl (.int, k)) (n := k) (by omega), ?_, gJ_n (kd := .inl (.int, k)) (n := k) (by omega), gP_n (kd := .inl (.int, k)) (n := k) (by omega)⟩⟩, up1_s, fun j hj => ?_⟩
  · show up1 (sI (pN S _ _)) (sn S) _ q = _
    rw [up1_o (by omega)]; exact gI_n (by omega)
  · show up1 (sI (pN S _ _)) (sn S) _ (sn S) j = _
    rw [up1_s, if_pos hj, gI_n (by omega)]
theorem nar01 {la : Nat} (h : la < 2) : narrow .boolean (.int (nI la)) = .int (nI la) ∧ fits .boolean (.int (nI la)) = true := by
  have hz : la = 0 ∨ la = 1 := by omega
  rcases hz with z | z
  · rw [z]; exact ⟨rfl, rfl⟩
  · rw [z]; exact ⟨rfl, rfl⟩
def lwO (tp : Nat → Nat) (n la p : Nat) : pR := if tK tp n p = 31 then pS tp n la 8000 (if la = 0 then 2 else 5) 0 (tE tp n p) else .inl (pE tp n p 2)
/-- the reader's own cells alone are others, one cell more -/
def qN (S S' : ab_S) (z : Nat) : Prop := S'.1 = S.1 ∧ sn S' = sn S + 1 ∧ sz S' = sz S + z ∧ (∀ b, b < sn S → sK S' b = sK S b ∧ sP S' b = sP S b ∧ (b ≠ 72 → b ≠ 77 → sI S' b = sI S b ∧ sJ S' b = sJ S b)) ∧ ∀ j, (j < 2 ∨ 12 < j) → sI S' 72 j = sI S 72 j
theorem qN.of {S S1 S2 : ab_S} {z : Nat} (h120 : 120 ≤ sn S) (h : sEq [72, 77] S S1) (hf : ∀ j, (j < 2 ∨ 12 < j) → sI S1 72 j = sI S 72 j) (g : grE S1 S2 1 z) : qN S S2 z := by
  obtain ⟨h1, h2, h3, h4, h5, h6, h7⟩ := h
  obtain ⟨g1, g2, g3, g4⟩ := g
  refine ⟨g1.trans h1, by omega, by omega, fun b hb => ?_, fun j hj => ?_⟩
  · obtain ⟨a1, a2, a3, a4⟩ := g4 b (by omega)
    refine ⟨by rw [a1, h2], by rw [a4, h5], fun z1 z2 => ?_⟩
    have hb2 : b ∉ [72, 77] := (by simp only [List.mem_cons, List.not_mem_nil, or_false, not_or]; omega)
    exact ⟨a2.trans (h3 b hb2), a3.trans (h4 b hb2)⟩
  · obtain ⟨a1, a2, a3, a4⟩ := g4 72 (by omega)
    rw [a2]; exact hf j hj
theorem xSh.gr {S S' : ab_S} {m z : Nat} (hx : xSh S) (h : grE S S' m z) : xSh S' := by
  obtain ⟨x1, x2, x3⟩ := hx
  obtain ⟨h1, h2, h3, h4⟩ := h
  refine ⟨by omega, fun k hk => (h4 _ (by omega)).1.trans (x2 k hk), fun t ht => ?_⟩
  have hlt : t.1 < 120 := (show ∀ t ∈ xPl, t.1 < 120 by decide) t ht
  rw [(h4 t.1 (by omega)).2.2.2]
  exact x3 t ht
theorem qLv.gr {S S' : ab_S} {tp : Nat → Nat} {n p m z : Nat} (h : qLv S tp n p) (g : grE S S' m z) : qLv S' tp n p := by
  obtain ⟨a1, a2, a3, a4, a5, a6, a7, a8, a9, N, a10, a11⟩ := h
  have c72 := g.2.2.2 72 (Nat.lt_of_lt_of_le (by decide) a1.1)
  have c51 := g.2.2.2 51 (Nat.lt_of_lt_of_le (by decide) a1.1)
  refine ⟨a1.gr g, by rw [g.1]; exact a2, by unfold bT; rw [c51.2.1]; exact a3, a4, by rw [c72.2.2.2]; exact a5, by rw [c72.2.1]; exact a6, a7, by unfold qT; rw [c72.2.1]; exact a8, by rw [c72.2.1]; exact a9, N, a10, by rw [c72.2.1]; exact a11⟩
theorem qD.gr {S S' : ab_S} {n m z : Nat} {e : Nat × Nat} (h : qD S n e) (g : grE S S' m z) : qD S' n e := by
  obtain ⟨a1, a2, a3, a4, a5, a6, a7, a8, a9, a10, N, a11, a12⟩ := h
  have c72 := g.2.2.2 72 (Nat.lt_of_lt_of_le (by decide) a1.1)
  exact ⟨a1.gr g, by rw [g.1]; exact a2, a3, by rw [c72.2.2.2]; exact a4, by rw [c72.2.1]; exact a5, by rw [c72.2.1]; exact a6, by rw [c72.2.1]; exact a7, by rw [c72.2.1]; exact a8, by rw [c72.2.1]; exact a9, a10, N, a11, by rw [c72.2.1]; exact a12⟩
def lwQ (S : ab_S) (tp : Nat → Nat) (n p : Nat) (r : pR) (v : Option Value) (w' : ab_H) : Prop := v = some (.ref (sn S)) ∧ ∃ S' z, w' = sw S' ∧ qN S S' z ∧ (match r with
  | .inl e => qD S' n e ∧ z ≤ n - p
  | .inr x => qLv S' tp n x.1 ∧ z = x.2.length ∧ p + z < x.1 ∧ sK S' (sn S) = .inl (.int, x.2.length) ∧ ∀ j, j < x.2.length → sI S' (sn S) j = cvt (nI (x.2.getD j 0)))
def tb_re_readLaw : List (Nat × Instr × Nat) := [(0, .aload_n 0, 1), (1, .iload_n 1, 1), (2, .putfield 44, 3), (5, .aload_n 0, 1), (6, .iconst 0, 1), (7, .putfield 48, 3), (10, .aload_n 0, 1), (11, .iconst 0, 1), (12, .putfield 55, 3), (15, .aload_n 0, 1), (16, .bipush 58, 2), (18, .invokevirtual 81, 3), (21, .iload_n 1, 1), (22, .ifCond .eq 10, 3), (25, .aload_n 0, 1), (26, .invokevirtual 146, 3), (29, .goto 7, 3), (32, .aload_n 0, 1), (33, .invokevirtual 149, 3), (36, .aload_n 0, 1), (37, .getfield 51, 3), (40, .aload_n 0, 1), (41, .getfield 55, 3), (44, .invokestatic 152, 3), (47, .areturn, 1)]
theorem tk_re_readLaw : ∀ q ∈ tb_re_readLaw, decode M_re_readLaw.2.1 q.1 = .ok q.2 := by decide +kernel
theorem LA_readLaw {G : ab_G} {S : ab_S} {tp : Nat → Nat} {n p : Nat} (hL : qLv S tp n p) (la : Nat) (hla : la < 2) (hp1 : 1 ≤ p) : ab_C G 100 M_re_readLaw [.ref 72, .int (nI la)] (sw S) (lwQ S tp n p (lwO tp n la p)) := by
  refine x_enter [some (.ref 72), some (.int (nI la))] (by decide) (Nat.le_of_ble_eq_true rfl) rfl (fun v w' h => by obtain ⟨rfl, -⟩ := h; trivial) ?_
  refine x_aload_n 1 0 (ab_dd tk_re_readLaw 0 rfl) rfl rfl rfl ?_
  refine x_iload_n 2 1 (ab_dd tk_re_readLaw 1 rfl) rfl rfl rfl ?_
  refine t_putI 5 (ab_dd tk_re_readLaw 2 rfl) rfl F_re_44 (by decide) (Nat.lt_of_lt_of_le (by decide) hL.1.1) (hL.1.2.1 22 (by decide)) rfl (nar01 hla).1 (nar01 hla).2 ?_
  refine x_aload_n 6 0 (ab_dd tk_re_readLaw 3 rfl) rfl rfl rfl ?_
  refine x_iconst 7 0 (ab_dd tk_re_readLaw 4 rfl) rfl (by decide) (x_topn 0 rfl ?_)
  refine t_putI 10 (ab_dd tk_re_readLaw 5 rfl) rfl F_re_48 (by decide) (Nat.lt_of_lt_of_le (by decide) hL.1.1) (hL.1.2.1 22 (by decide)) rfl rfl rfl ?_
  refine x_aload_n 11 0 (ab_dd tk_re_readLaw 6 rfl) rfl rfl rfl ?_
  refine x_iconst 12 0 (ab_dd tk_re_readLaw 7 rfl) rfl (by decide) (x_topn 0 rfl ?_)
  refine t_putI 15 (ab_dd tk_re_readLaw 8 rfl) rfl F_re_55 (by decide) (Nat.lt_of_lt_of_le (by decide) hL.1.1) (hL.1.2.1 22 (by decide)) rfl rfl rfl ?_
  have hLb := hL
  obtain ⟨hx, kc, hB, hn9, ht, h1n, hpn, hT, h6, N0, hN0, hN1⟩ := hLb
  have hk42 := tK_lt tp n p
  have hE3 : sEq [72] S (pI (pI (pI S 72 9 (nI la)) 72 10 (nI 0)) 72 12 (nI 0)) := ((sEq.rf.pI (by simp)).pI (by simp)).pI (by simp)
  have ho3 : ∀ j, j ≠ 9 → j ≠ 10 → j ≠ 12 → sI (pI (pI (pI S 72 9 (nI la)) 72 10 (nI 0)) 72 12 (nI 0)) 72 j = sI S 72 j := fun j h1 h2 h3 => (gI_k h3).trans ((gI_k h2).trans (gI_k h1))
  have hL3 : qLv (pI (pI (pI S 72 9 (nI la)) 72 10 (nI 0)) 72 12 (nI 0)) tp n p := ⟨hx.eq hE3, kc, hB.eq hE3 (by decide), hn9, ht, (ho3 1 (by decide) (by decide) (by decide)).trans h1n, hpn, ⟨(ho3 2 (by decide) (by decide) (by decide)).trans hT.1, (ho3 3 (by decide) (by decide) (by decide)).trans hT.2.1, (ho3 4 (by decide) (by decide) (by decide)).trans hT.2.2.1, fun z => (ho3 5 (by decide) (by decide) (by decide)).trans (hT.2.2.2.1 z), fun z => (ho3 5 (by decide) (by decide) (by decide)).trans (hT.2.2.2.2 z)⟩, ⟨(ho3 6 (by decide) (by decide) (by decide)).trans h6.1, (ho3 7 (by decide) (by decide) (by decide)).trans h6.2⟩, 0, by decide, gI_s⟩
  have h9 : sI (pI (pI (pI S 72 9 (nI la)) 72 10 (nI 0)) 72 12 (nI 0)) 72 9 = nI la := (gI_k (by decide)).trans ((gI_k (by decide)).trans gI_s)
  have h10 : sI (pI (pI (pI S 72 9 (nI la)) 72 10 (nI 0)) 72 12 (nI 0)) 72 10 = nI 0 := (gI_k (by decide)).trans gI_s
  have hN : sI (pI (pI (pI S 72 9 (nI la)) 72 10 (nI 0)) 72 12 (nI 0)) 72 12 = nI 0 := gI_s
  have hz3 : sn (pI (pI (pI S 72 9 (nI la)) 72 10 (nI 0)) 72 12 (nI 0)) = sn S := rfl
  generalize hS3 : pI (pI (pI S 72 9 (nI la)) 72 10 (nI 0)) 72 12 (nI 0) = S3 at *
  have hx3 : ∀ j, (j < 2 ∨ 12 < j) → sI S3 72 j = sI S 72 j := fun j hj => ho3 j (by omega) (by omega) (by omega)
  refine x_aload_n 16 0 (ab_dd tk_re_readLaw 9 rfl) rfl rfl rfl ?_
  refine x_bipush 18 58 (ab_dd tk_re_readLaw 10 rfl) rfl (by decide) (x_topn 58 rfl ?_)
  refine t_callV 21 M_re_needSign 6 1 [_] (ab_dd tk_re_readLaw 11 rfl) rfl (by first | decide | omega) K_re_needSign V_re_needSign.1 V_re_needSign.2 L_re_81 rfl (Nat.le_of_ble_eq_true rfl) (by decide) (Nat.lt_of_lt_of_le (by decide) hL3.1.1) (hL3.1.2.1 22 (by decide)) rfl (LA_nsg hL3 1 58 (by decide) (by decide)) (fun v1 w1 h1 => ?_)
  obtain ⟨rfl, U1, rfl, uG1, uO1⟩ := h1
  rcases uO1 with ⟨hk1, uL1⟩ | ⟨hk1, uD1⟩
  · have ht1 := tE_g hL3.2.2.2.2.2.2.1 (show tK tp n p ≠ 24 by omega)
    refine x_iload_n 22 1 (ab_dd tk_re_readLaw 12 rfl) rfl rfl rfl ?_
    refine xn_if_eq 25 32 (ab_dd tk_re_readLaw 13 rfl) rfl (by decide) (by omega) (fun h22 => ?_) (fun h22 => ?_)
    · refine x_aload_n 33 0 (ab_dd tk_re_readLaw 17 rfl) rfl rfl rfl ?_
      refine t_callV 36 M_re_readSum (12 * (6 - 0) + 8 + 6) 0 [] (ab_dd tk_re_readLaw 18 rfl) rfl (by decide) K_re_readSum V_re_readSum.1 V_re_readSum.2 L_re_149 rfl (Nat.le_of_ble_eq_true rfl) (by decide) (Nat.lt_of_lt_of_le (by decide) uL1.1.1) (uL1.1.2.1 22 (by decide)) rfl ((k_all hla 8000 8000 (Nat.le_refl _)).2.2.1 _ 0 0 (tE tp n p) uL1 (by exact (((qF.rf (S := S3)).tr uG1.F).2 9 (by omega)).trans h9) ((uG1.2 12 (by omega)).trans hN) ((uG1.2 10 (by omega)).trans h10) (by omega) (by omega) (by omega)) (fun v1 w1 h1 => ?_)
      obtain ⟨rfl, U2, rfl, uF2, uO2⟩ := h1
      rcases hX2 : pS tp n la 8000 2 0 (tE tp n p) with e2 | ⟨q2, c2⟩
      · rw [hX2] at uO2
        obtain ⟨uD2, uB2⟩ := uO2
        obtain ⟨N7, hb7, hc7, hv7⟩ := uB2
        have hxx := uD2.1
        refine x_aload_n 37 0 (ab_dd tk_re_readLaw 19 rfl) rfl rfl rfl ?_
        refine t_getP 40 77 (ab_dd tk_re_readLaw 20 rfl) rfl F_re_51 (by decide) (Nat.lt_of_lt_of_le (by decide) uD2.1.1) (uD2.1.2.1 22 (by decide)) rfl (uD2.1.2.2 (72, 11, 77) (by decide)) ?_
        refine x_aload_n 41 0 (ab_dd tk_re_readLaw 21 rfl) rfl rfl rfl ?_
        refine t_getI 44 (ab_dd tk_re_readLaw 22 rfl) rfl F_re_55 (by decide) (Nat.lt_of_lt_of_le (by decide) uD2.1.1) (uD2.1.2.1 22 (by decide)) rfl (x_topn N7 hv7 ?_)
        refine x_callS 47 M_jA_copyOf 1 2 [_, _] (ab_dd tk_re_readLaw 23 rfl) rfl (by first | decide | omega) K_jA_copyOf T_jA_copyOf L_re_152 rfl (Nat.le_of_ble_eq_true rfl) (c_jA_copyOf (Nat.le_trans (by decide) hxx.1) (by decide) (Nat.lt_of_lt_of_le (by decide) hxx.1) (hxx.2.1 27 (by decide)) (by decide) N7 (by omega)) (fun v1 w1 h1 => ?_)
        obtain ⟨rfl, W3, rfl, wG3, wK3, wV3⟩ := h1
        have hsn3 : sn _ = sn S := (((qF.rf (S := S3)).tr uG1.F).tr uF2).1.2.2.2.2.2.1.trans hz3
        have hsp : lwO tp n la p = .inl e2 := by
          unfold lwO
          rw [if_pos hk1]
          rw [if_pos (show la = 0 by omega)]
          rw [hX2]
        rw [hsp]
        refine x_aret (ab_dd tk_re_readLaw 24 rfl) ⟨congrArg (fun z => some (Value.ref z)) hsn3, W3, N7, rfl, qN.of hx.1 ((hE3.mono (by simp)).tr (((qF.rf (S := S3)).tr uG1.F).tr uF2).1) (fun j hj => ((((qF.rf (S := S3)).tr uG1.F).tr uF2).2 j (by omega)).trans (hx3 j hj)) wG3, ?_⟩
        exact ⟨uD2.gr wG3, by omega⟩
      · rw [hX2] at uO2
        obtain ⟨uL2, uC2, uN2, uM2⟩ := uO2
        have hg2 := pS_len _ _ _ _ _ _ uL1.2.2.2.2.2.2.1 hX2
        obtain ⟨hga2, hgb2, hgc2, hgd2⟩ := hg2
        have hxx := uL2.1
        refine x_aload_n 37 0 (ab_dd tk_re_readLaw 19 rfl) rfl rfl rfl ?_
        refine t_getP 40 77 (ab_dd tk_re_readLaw 20 rfl) rfl F_re_51 (by decide) (Nat.lt_of_lt_of_le (by decide) uL2.1.1) (uL2.1.2.1 22 (by decide)) rfl (uL2.1.2.2 (72, 11, 77) (by decide)) ?_
        refine x_aload_n 41 0 (ab_dd tk_re_readLaw 21 rfl) rfl rfl rfl ?_
        refine t_getI 44 (ab_dd tk_re_readLaw 22 rfl) rfl F_re_55 (by decide) (Nat.lt_of_lt_of_le (by decide) uL2.1.1) (uL2.1.2.1 22 (by decide)) rfl (x_topn c2.length (uN2.trans (congrArg nI (Nat.zero_add _))) ?_)
        refine x_callS 47 M_jA_copyOf 1 2 [_, _] (ab_dd tk_re_readLaw 23 rfl) rfl (by first | decide | omega) K_jA_copyOf T_jA_copyOf L_re_152 rfl (Nat.le_of_ble_eq_true rfl) (c_jA_copyOf (Nat.le_trans (by decide) hxx.1) (by decide) (Nat.lt_of_lt_of_le (by decide) hxx.1) (hxx.2.1 27 (by decide)) (by decide) c2.length (by omega)) (fun v1 w1 h1 => ?_)
        obtain ⟨rfl, W4, rfl, wG4, wK4, wV4⟩ := h1
        have hsn4 : sn _ = sn S := (((qF.rf (S := S3)).tr uG1.F).tr uF2).1.2.2.2.2.2.1.trans hz3
        have hsp : lwO tp n la p = .inr (q2, c2) := by
          unfold lwO
          rw [if_pos hk1]
          rw [if_pos (show la = 0 by omega)]
          rw [hX2]
        rw [hsp]
        refine x_aret (ab_dd tk_re_readLaw 24 rfl) ⟨congrArg (fun z => some (Value.ref z)) hsn4, W4, c2.length, rfl, qN.of hx.1 ((hE3.mono (by simp)).tr (((qF.rf (S := S3)).tr uG1.F).tr uF2).1) (fun j hj => ((((qF.rf (S := S3)).tr uG1.F).tr uF2).2 j (by omega)).trans (hx3 j hj)) wG4, ?_⟩
        have hs0 : sn _ = sn S := hsn4
        refine ⟨uL2.gr wG4, rfl, by show p + c2.length < q2; omega, by rw [← hs0]; exact wK4, fun j hj => ?_⟩
        rw [← hs0, wV4 j hj, uC2]
        unfold appL
        rw [if_pos ⟨Nat.zero_le _, by omega⟩, Nat.sub_zero]
    · refine x_aload_n 26 0 (ab_dd tk_re_readLaw 14 rfl) rfl rfl rfl ?_
      refine t_callV 29 M_re_readTruth (12 * (6 - 0) + 8 + 12) 0 [] (ab_dd tk_re_readLaw 15 rfl) rfl (by decide) K_re_readTruth V_re_readTruth.1 V_re_readTruth.2 L_re_146 rfl (Nat.le_of_ble_eq_true rfl) (by decide) (Nat.lt_of_lt_of_le (by decide) uL1.1.1) (uL1.1.2.1 22 (by decide)) rfl ((k_all hla 8000 8000 (Nat.le_refl _)).2.2.2.2.2 _ 0 0 (tE tp n p) uL1 (by exact (((qF.rf (S := S3)).tr uG1.F).2 9 (by omega)).trans h9) ((uG1.2 12 (by omega)).trans hN) ((uG1.2 10 (by omega)).trans h10) (by omega) (by omega) (by omega)) (fun v1 w1 h1 => ?_)
      obtain ⟨rfl, U5, rfl, uF5, uO5⟩ := h1
      rcases hX5 : pS tp n la 8000 5 0 (tE tp n p) with e5 | ⟨q5, c5⟩
      · rw [hX5] at uO5
        obtain ⟨uD5, uB5⟩ := uO5
        refine x_goto 36 (ab_dd tk_re_readLaw 16 rfl) (by decide) ?_
        obtain ⟨N7, hb7, hc7, hv7⟩ := uB5
        have hxx := uD5.1
        refine x_aload_n 37 0 (ab_dd tk_re_readLaw 19 rfl) rfl rfl rfl ?_
        refine t_getP 40 77 (ab_dd tk_re_readLaw 20 rfl) rfl F_re_51 (by decide) (Nat.lt_of_lt_of_le (by decide) uD5.1.1) (uD5.1.2.1 22 (by decide)) rfl (uD5.1.2.2 (72, 11, 77) (by decide)) ?_
        refine x_aload_n 41 0 (ab_dd tk_re_readLaw 21 rfl) rfl rfl rfl ?_
        refine t_getI 44 (ab_dd tk_re_readLaw 22 rfl) rfl F_re_55 (by decide) (Nat.lt_of_lt_of_le (by decide) uD5.1.1) (uD5.1.2.1 22 (by decide)) rfl (x_topn N7 hv7 ?_)
        refine x_callS 47 M_jA_copyOf 1 2 [_, _] (ab_dd tk_re_readLaw 23 rfl) rfl (by first | decide | omega) K_jA_copyOf T_jA_copyOf L_re_152 rfl (Nat.le_of_ble_eq_true rfl) (c_jA_copyOf (Nat.le_trans (by decide) hxx.1) (by decide) (Nat.lt_of_lt_of_le (by decide) hxx.1) (hxx.2.1 27 (by decide)) (by decide) N7 (by omega)) (fun v1 w1 h1 => ?_)
        obtain ⟨rfl, W6, rfl, wG6, wK6, wV6⟩ := h1
        have hsn6 : sn _ = sn S := (((qF.rf (S := S3)).tr uG1.F).tr uF5).1.2.2.2.2.2.1.trans hz3
        have hsp : lwO tp n la p = .inl e5 := by
          unfold lwO
          rw [if_pos hk1]
          rw [if_neg (show ¬ la = 0 by omega)]
          rw [hX5]
        rw [hsp]
        refine x_aret (ab_dd tk_re_readLaw 24 rfl) ⟨congrArg (fun z => some (Value.ref z)) hsn6, W6, N7, rfl, qN.of hx.1 ((hE3.mono (by simp)).tr (((qF.rf (S := S3)).tr uG1.F).tr uF5).1) (fun j hj => ((((qF.rf (S := S3)).tr uG1.F).tr uF5).2 j (by omega)).trans (hx3 j hj)) wG6, ?_⟩
        exact ⟨uD5.gr wG6, by omega⟩
      · rw [hX5] at uO5
        obtain ⟨uL5, uC5, uN5, uM5⟩ := uO5
        have hg5 := pS_len _ _ _ _ _ _ uL1.2.2.2.2.2.2.1 hX5
        obtain ⟨hga5, hgb5, hgc5, hgd5⟩ := hg5
        refine x_goto 36 (ab_dd tk_re_readLaw 16 rfl) (by decide) ?_
        have hxx := uL5.1
        refine x_aload_n 37 0 (ab_dd tk_re_readLaw 19 rfl) rfl rfl rfl ?_
        refine t_getP 40 77 (ab_dd tk_re_readLaw 20 rfl) rfl F_re_51 (by decide) (Nat.lt_of_lt_of_le (by decide) uL5.1.1) (uL5.1.2.1 22 (by decide)) rfl (uL5.1.2.2 (72, 11, 77) (by decide)) ?_
        refine x_aload_n 41 0 (ab_dd tk_re_readLaw 21 rfl) rfl rfl rfl ?_
        refine t_getI 44 (ab_dd tk_re_readLaw 22 rfl) rfl F_re_55 (by decide) (Nat.lt_of_lt_of_le (by decide) uL5.1.1) (uL5.1.2.1 22 (by decide)) rfl (x_topn c5.length (uN5.trans (congrArg nI (Nat.zero_add _))) ?_)
        refine x_callS 47 M_jA_copyOf 1 2 [_, _] (ab_dd tk_re_readLaw 23 rfl) rfl (by first | decide | omega) K_jA_copyOf T_jA_copyOf L_re_152 rfl (Nat.le_of_ble_eq_true rfl) (c_jA_copyOf (Nat.le_trans (by decide) hxx.1) (by decide) (Nat.lt_of_lt_of_le (by decide) hxx.1) (hxx.2.1 27 (by decide)) (by decide) c5.length (by omega)) (fun v1 w1 h1 => ?_)
        obtain ⟨rfl, W7, rfl, wG7, wK7, wV7⟩ := h1
        have hsn7 : sn _ = sn S := (((qF.rf (S := S3)).tr uG1.F).tr uF5).1.2.2.2.2.2.1.trans hz3
        have hsp : lwO tp n la p = .inr (q5, c5) := by
          unfold lwO
          rw [if_pos hk1]
          rw [if_neg (show ¬ la = 0 by omega)]
          rw [hX5]
        rw [hsp]
        refine x_aret (ab_dd tk_re_readLaw 24 rfl) ⟨congrArg (fun z => some (Value.ref z)) hsn7, W7, c5.length, rfl, qN.of hx.1 ((hE3.mono (by simp)).tr (((qF.rf (S := S3)).tr uG1.F).tr uF5).1) (fun j hj => ((((qF.rf (S := S3)).tr uG1.F).tr uF5).2 j (by omega)).trans (hx3 j hj)) wG7, ?_⟩
        have hs0 : sn _ = sn S := hsn7
        refine ⟨uL5.gr wG7, rfl, by show p + c5.length < q5; omega, by rw [← hs0]; exact wK7, fun j hj => ?_⟩
        rw [← hs0, wV7 j hj, uC5]
        unfold appL
        rw [if_pos ⟨Nat.zero_le _, by omega⟩, Nat.sub_zero]
  · skip
    refine x_iload_n 22 1 (ab_dd tk_re_readLaw 12 rfl) rfl rfl rfl ?_
    refine xn_if_eq 25 32 (ab_dd tk_re_readLaw 13 rfl) rfl (by decide) (by omega) (fun h22 => ?_) (fun h22 => ?_)
    · refine x_aload_n 33 0 (ab_dd tk_re_readLaw 17 rfl) rfl rfl rfl ?_
      refine t_callV 36 M_re_readSum 9 0 [] (ab_dd tk_re_readLaw 18 rfl) rfl (by omega) K_re_readSum V_re_readSum.1 V_re_readSum.2 L_re_149 rfl (Nat.le_of_ble_eq_true rfl) (by decide) (Nat.lt_of_lt_of_le (by decide) uD1.1.1) (uD1.1.2.1 22 (by decide)) rfl (D_re_readSum uD1) (fun v1 w1 h1 => ?_)
      obtain ⟨rfl, U8, rfl, uG8, uD8⟩ := h1
      obtain ⟨N7, hb7, hc7, hv7⟩ := ((bL.g (S := _) ⟨_, Nat.le_refl _, (by first | omega | (simp only [List.length_append, List.length_cons, List.length_nil]; omega)), hN⟩ (uG1.2 12 (by omega))).g (uG8.2 12 (by omega)))
      have hxx := uD8.1
      refine x_aload_n 37 0 (ab_dd tk_re_readLaw 19 rfl) rfl rfl rfl ?_
      refine t_getP 40 77 (ab_dd tk_re_readLaw 20 rfl) rfl F_re_51 (by decide) (Nat.lt_of_lt_of_le (by decide) uD8.1.1) (uD8.1.2.1 22 (by decide)) rfl (uD8.1.2.2 (72, 11, 77) (by decide)) ?_
      refine x_aload_n 41 0 (ab_dd tk_re_readLaw 21 rfl) rfl rfl rfl ?_
      refine t_getI 44 (ab_dd tk_re_readLaw 22 rfl) rfl F_re_55 (by decide) (Nat.lt_of_lt_of_le (by decide) uD8.1.1) (uD8.1.2.1 22 (by decide)) rfl (x_topn N7 hv7 ?_)
      refine x_callS 47 M_jA_copyOf 1 2 [_, _] (ab_dd tk_re_readLaw 23 rfl) rfl (by first | decide | omega) K_jA_copyOf T_jA_copyOf L_re_152 rfl (Nat.le_of_ble_eq_true rfl) (c_jA_copyOf (Nat.le_trans (by decide) hxx.1) (by decide) (Nat.lt_of_lt_of_le (by decide) hxx.1) (hxx.2.1 27 (by decide)) (by decide) N7 (by omega)) (fun v1 w1 h1 => ?_)
      obtain ⟨rfl, W9, rfl, wG9, wK9, wV9⟩ := h1
      have hsn9 : sn _ = sn S := (((qF.rf (S := S3)).tr uG1.F).tr uG8.F).1.2.2.2.2.2.1.trans hz3
      have hsp : lwO tp n la p = .inl (pE tp n p 2) := by
        unfold lwO
        rw [if_neg hk1]
      rw [hsp]
      refine x_aret (ab_dd tk_re_readLaw 24 rfl) ⟨congrArg (fun z => some (Value.ref z)) hsn9, W9, N7, rfl, qN.of hx.1 ((hE3.mono (by simp)).tr (((qF.rf (S := S3)).tr uG1.F).tr uG8.F).1) (fun j hj => ((((qF.rf (S := S3)).tr uG1.F).tr uG8.F).2 j (by omega)).trans (hx3 j hj)) wG9, ?_⟩
      exact ⟨uD8.gr wG9, by omega⟩
    · refine x_aload_n 26 0 (ab_dd tk_re_readLaw 14 rfl) rfl rfl rfl ?_
      refine t_callV 29 M_re_readTruth 13 0 [] (ab_dd tk_re_readLaw 15 rfl) rfl (by omega) K_re_readTruth V_re_readTruth.1 V_re_readTruth.2 L_re_146 rfl (Nat.le_of_ble_eq_true rfl) (by decide) (Nat.lt_of_lt_of_le (by decide) uD1.1.1) (uD1.1.2.1 22 (by decide)) rfl (D_re_readTruth uD1) (fun v1 w1 h1 => ?_)
      obtain ⟨rfl, U10, rfl, uG10, uD10⟩ := h1
      refine x_goto 36 (ab_dd tk_re_readLaw 16 rfl) (by decide) ?_
      obtain ⟨N7, hb7, hc7, hv7⟩ := ((bL.g (S := _) ⟨_, Nat.le_refl _, (by first | omega | (simp only [List.length_append, List.length_cons, List.length_nil]; omega)), hN⟩ (uG1.2 12 (by omega))).g (uG10.2 12 (by omega)))
      have hxx := uD10.1
      refine x_aload_n 37 0 (ab_dd tk_re_readLaw 19 rfl) rfl rfl rfl ?_
      refine t_getP 40 77 (ab_dd tk_re_readLaw 20 rfl) rfl F_re_51 (by decide) (Nat.lt_of_lt_of_le (by decide) uD10.1.1) (uD10.1.2.1 22 (by decide)) rfl (uD10.1.2.2 (72, 11, 77) (by decide)) ?_
      refine x_aload_n 41 0 (ab_dd tk_re_readLaw 21 rfl) rfl rfl rfl ?_
      refine t_getI 44 (ab_dd tk_re_readLaw 22 rfl) rfl F_re_55 (by decide) (Nat.lt_of_lt_of_le (by decide) uD10.1.1) (uD10.1.2.1 22 (by decide)) rfl (x_topn N7 hv7 ?_)
      refine x_callS 47 M_jA_copyOf 1 2 [_, _] (ab_dd tk_re_readLaw 23 rfl) rfl (by first | decide | omega) K_jA_copyOf T_jA_copyOf L_re_152 rfl (Nat.le_of_ble_eq_true rfl) (c_jA_copyOf (Nat.le_trans (by decide) hxx.1) (by decide) (Nat.lt_of_lt_of_le (by decide) hxx.1) (hxx.2.1 27 (by decide)) (by decide) N7 (by omega)) (fun v1 w1 h1 => ?_)
      obtain ⟨rfl, W11, rfl, wG11, wK11, wV11⟩ := h1
      have hsn11 : sn _ = sn S := (((qF.rf (S := S3)).tr uG1.F).tr uG10.F).1.2.2.2.2.2.1.trans hz3
      have hsp : lwO tp n la p = .inl (pE tp n p 2) := by
        unfold lwO
        rw [if_neg hk1]
      rw [hsp]
      refine x_aret (ab_dd tk_re_readLaw 24 rfl) ⟨congrArg (fun z => some (Value.ref z)) hsn11, W11, N7, rfl, qN.of hx.1 ((hE3.mono (by simp)).tr (((qF.rf (S := S3)).tr uG1.F).tr uG10.F).1) (fun j hj => ((((qF.rf (S := S3)).tr uG1.F).tr uG10.F).2 j (by omega)).trans (hx3 j hj)) wG11, ?_⟩
      exact ⟨uD10.gr wG11, by omega⟩
