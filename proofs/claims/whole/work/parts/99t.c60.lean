/-! ===== way ===== -/
theorem gI_j31 {a : Nat → Int32} (h : aOk a) {N i d j : Nat} (e : gI a N i d = some j) : j < 2 ^ 31 := by
  unfold gI at e
  rw [Option.map_eq_some_iff] at e
  obtain ⟨s, -, rfl⟩ := e
  have h1 := aL_len h N
  have h2 : (aL a N).idxOf s ≤ (aL a N).length := List.idxOf_le_length
  omega
theorem way_c {a : Nat → Int32} {k T h t : Nat} (ha : aOk a) (hT : (cL a T).length = T) (hk : k ≤ (cL a k).length) (ht : t < (cL a k).length) (hw : h ≤ mLe (cWm a k t) (aR a)) (hno : ∀ i, i < t → ¬ h ≤ mLe (cWm a k i) (aR a)) {i : Nat} {v0 : Int32} (hv : (cD a T t ≤ i ∧ v0 = -1) ∨ (i < cD a T t ∧ ∃ d, d < 4 ∧ v0 = nI d ∧ gI a T (cP a T (anc (cP a T) t (cD a T t - 1 - i))) d = some (anc (cP a T) t (cD a T t - 1 - i)) ∧ ∀ d', d' < d → gI a T (cP a T (anc (cP a T) t (cD a T t - 1 - i))) d' ≠ some (anc (cP a T) t (cD a T t - 1 - i)))) : wR (gI a T) (gW a T h) i 0 v0 := by
  have h15 := cL_15 ha T
  have hB := bfT_c ha hT
  have hf := fsW_c ha hT hk ht hw hno
  rcases hv with ⟨h1, rfl⟩ | ⟨h1, d, hd, hv0, e1, e2⟩
  · exact hB.past hf (by unfold gFAR; omega) h1
  · have ee : cP a T (anc (cP a T) t (cD a T t - 1 - i)) = anc (cP a T) t (cD a T t - i) := by
      rw [show cD a T t - i = (cD a T t - 1 - i) + 1 by omega]
      rfl
    rw [ee] at e1 e2
    exact hB.way hf (by unfold gFAR; omega) h1 hd hv0 e1 e2
theorem way_n {a : Nat → Int32} {k T h : Nat} (ha : aOk a) (hT : (cL a T).length = T) (hk : k = (cL a k).length) (hno : ∀ i, i < k → ¬ h ≤ mLe (cWm a k i) (aR a)) (i : Nat) : wR (gI a T) (gW a T h) i 0 (-1) := by
  have hp : 0 < (cL a T).length := (bfB_pos T).1
  exact (bfT_c ha hT).no (by omega) (noW_c ha hT hk hno) i
theorem c_ro_deedToN {G : ab_G} {S : ab_S} {r N : Nat} (hO : roK S r N) (i : Nat) (hi : i < 2 ^ 31) : ab_C G 1 M_ro_deedTo [.ref r, .int (-1), .int (nI i)] (sw S) (fun v w' => v = some (.int (-1)) ∧ w' = sw S) := by
  refine x_enter [some (.ref r), some (.int (-1)), some (.int (nI i)), none, none, none] (by decide) (Nat.le_of_ble_eq_true rfl) rfl (fun v w' h => by obtain ⟨rfl, rfl⟩ := h; rfl) ?_
  have hr1 := hO.1
  have hr2 := hO.2.1
  refine x_aload_n 1 0 (ab_dd tk_ro_deedTo 0 rfl) rfl rfl rfl ?_
  refine x_iload_n 2 1 (ab_dd tk_ro_deedTo 1 rfl) rfl rfl rfl ?_
  refine t_callV 5 M_ro_stopsTo 0 1 [_] (ab_dd tk_ro_deedTo 2 rfl) rfl (by first | decide | omega) K_ro_stopsTo V_ro_stopsTo.1 V_ro_stopsTo.2 L_ro_104 rfl (Nat.le_of_ble_eq_true rfl) (Nat.le_trans (by decide) hr1) (Nat.lt_of_le_of_lt (Nat.le_add_right r 7) hr2) hO.2.2.1 rfl (c_ro_stopsToN hO) (fun v1 w1 h1 => ?_)
  obtain ⟨rfl, rfl⟩ := h1
  refine x_istore_n 6 [some (.ref r), some (.int (-1)), some (.int (nI i)), some (.int (-1)), none, none] 3 (ab_dd tk_ro_deedTo 3 rfl) rfl rfl (by decide) rfl ?_
  refine x_iload_n 7 2 (ab_dd tk_ro_deedTo 4 rfl) rfl rfl rfl ?_
  refine xn_if_lt 10 15 (ab_dd tk_ro_deedTo 5 rfl) rfl (by decide) (by omega) ?_
  refine x_iload_n 11 2 (ab_dd tk_ro_deedTo 6 rfl) rfl rfl rfl ?_
  refine x_iload_n 12 3 (ab_dd tk_ro_deedTo 7 rfl) rfl rfl rfl ?_
  refine x_icmp_lt_f 15 (ab_dd tk_ro_deedTo 8 rfl) rfl 17 (by decide) (fun z => absurd (Int32.lt_trans z (by decide)) (nI_nn i hi)) ?_
  refine x_iconst 16 (-1) (ab_dd tk_ro_deedTo 9 rfl) rfl (by decide) ?_
  exact x_iret (ab_dd tk_ro_deedTo 10 rfl) ⟨rfl, rfl⟩
def tb_s_way : List (Nat × Instr × Nat) := [(0, .iload_n 1, 1), (1, .i2l, 1), (2, .invokestatic 283, 3), (5, .ifCond .eq 7, 3), (8, .iload_n 2, 1), (9, .ifCond .ge 6, 3), (12, .bipush (-3), 2), (14, .ireturn, 1), (15, .aload_n 0, 1), (16, .invokevirtual 293, 3), (19, .astore_n 3, 1), (20, .aload_n 3, 1), (21, .aload_n 3, 1), (22, .iload_n 1, 1), (23, .invokevirtual 297, 3), (26, .iload_n 2, 1), (27, .invokevirtual 304, 3), (30, .ireturn, 1)]
theorem tk_s_way : ∀ q ∈ tb_s_way, decode M_s_way.2.1 q.1 = .ok q.2 := by decide +kernel
theorem p_s_way {G : ab_G} {S : ab_S} {im : Nat → Prop} {a b : Nat → Int32} {c bh nb st st2 u : Nat} (h : kBd S im a c b bh nb st st2 u) (ht : sdE S 55 (rowT a)) (hu : u + 64 < 2 ^ 20) {T : Nat} (hT : (cL a T).length = T) (k i : Int32) : ab_C G 7 M_s_way [.ref 50, .int k, .int i] (sw S) (fun v w' => ∃ v0, pAs S im a c bh nb u 0 0 (some (.int v0)) v w' ∧ ((¬ ((0 ≤ k ∧ k ≤ 4) ∧ 0 ≤ i) ∧ v0 = -3) ∨ (((0 ≤ k ∧ k ≤ 4) ∧ 0 ≤ i) ∧ wR (gI a T) (gW a T (cN k)) (cN i) 0 v0))) := by
  refine x_enter [some (.ref 50), some (.int k), some (.int i), none] (by decide) (Nat.le_of_ble_eq_true rfl) rfl (fun v w' h => by obtain ⟨v0, ⟨rfl, -⟩, -⟩ := h; rfl) ?_
  have hbh := h.bh.1
  have h0 := h
  obtain ⟨hx, hse, kc, ⟨him, hil, h145⟩, ha, hc, ⟨hb1, hb2, hcl, hnb⟩, hcl9, -, hid, -, hu1, hu2⟩ := h0
  have h40 : sI S 55 3 = a 40 := ht.2.2.2.1.trans ha.1.m40.1.symm
  refine x_iload_n 1 1 (ab_dd tk_s_way 0 rfl) rfl rfl rfl ?_
  refine x_i2l 2 (ab_dd tk_s_way 1 rfl) rfl ?_
  refine x_callS 5 M_s_isWarmth 0 1 [_] (ab_dd tk_s_way 2 rfl) rfl (by first | decide | omega) K_s_isWarmth T_s_isWarmth L_s_283 rfl (Nat.le_of_ble_eq_true rfl) (cx_isWarmth k) (fun v1 w1 h1 => ?_)
  obtain ⟨rfl, rfl⟩ := h1
  refine xb_if_eq 8 12 (ab_dd tk_s_way 3 rfl) rfl (by decide) (fun h5 => ?_) (fun h5 => ?_)
  · refine x_bipush 14 (-3) (ab_dd tk_s_way 6 rfl) rfl (by decide) ?_
    exact x_iret (ab_dd tk_s_way 7 rfl) ⟨-3, ⟨rfl, S, b, st, st2, rfl, fAs.rf, gA.rf, h.up (by omega), ht⟩, Or.inl ⟨fun z => h5 z.1, rfl⟩⟩
  · refine x_iload_n 9 2 (ab_dd tk_s_way 4 rfl) rfl rfl rfl ?_
    refine x_if_ge 12 15 (ab_dd tk_s_way 5 rfl) rfl (by decide) (fun h9 => ?_) (fun h9 => ?_)
    · have hkn : (0 ≤ k ∧ k ≤ 4) ∧ 0 ≤ i := ⟨h5, h9⟩
      obtain ⟨q, hq, ekq, enq⟩ := in_get (n := 4) (by decide) h5
      rw [show some (Value.int k) = some (Value.int (nI q)) by rw [ekq], enq]
      obtain ⟨j, ekj, enj⟩ : ∃ j, i = nI j ∧ cN i = j := ⟨cN i, nI_cN h9, rfl⟩
      have hj31 : j < 2 ^ 31 := by rw [← enj]; exact cN_31 i
      rw [show some (Value.int i) = some (Value.int (nI j)) by rw [ekj], enj]
      refine x_aload_n 16 0 (ab_dd tk_s_way 8 rfl) rfl rfl rfl ?_
      refine t_callV 19 M_s_rowsNow 3 0 [] (ab_dd tk_s_way 9 rfl) rfl (by first | decide | omega) K_s_rowsNow V_s_rowsNow.1 V_s_rowsNow.2 L_s_293 rfl (Nat.le_of_ble_eq_true rfl) (by decide) (Nat.lt_of_lt_of_le (by decide) hx.1) (hx.2.1 0 (by decide)) rfl (b_s_rowsNow h ht (by omega)) (fun v1 w1 h1 => ?_)
      obtain ⟨S1, s1, r, N, k1, rs, rfl, rfl, hF1, hG1, hB1, hn1, hR1, hN1⟩ := h1
      have hB1c := hB1
      obtain ⟨hx1, hse1, kc1, -, -, -, ⟨-, -, hcl1, -⟩, -⟩ := hB1c
      have hR1c := hR1
      obtain ⟨-, hi1, hb1, hO1, -, -, -, -, hI1, -⟩ := hR1c
      have hA1 := gA.rows h hF1 hG1 hR1
      have hr1 := hO1.1
      refine x_astore_n 20 [some (.ref 50), some (.int (nI q)), some (.int (nI j)), some (.ref r)] 3 (ab_dd tk_s_way 10 rfl) rfl rfl (by decide) rfl ?_
      refine x_aload_n 21 3 (ab_dd tk_s_way 11 rfl) rfl rfl rfl ?_
      refine x_aload_n 22 3 (ab_dd tk_s_way 12 rfl) rfl rfl rfl ?_
      refine x_iload_n 23 1 (ab_dd tk_s_way 13 rfl) rfl rfl rfl ?_
      refine t_callV 26 M_ro_firstWarm 5 1 [_] (ab_dd tk_s_way 14 rfl) rfl (by first | decide | omega) K_ro_firstWarm V_ro_firstWarm.1 V_ro_firstWarm.2 L_s_297 rfl (Nat.le_of_ble_eq_true rfl) (Nat.le_trans (by decide) hr1) (Nat.lt_of_le_of_lt (Nat.le_add_right r 7) hO1.2.1) hO1.2.2.1 rfl (c_ro_firstWarm hx1 hse1 kc1 him (Or.inl rfl) hcl1 ha hO1 hi1 hb1 hI1 q (by omega)) (fun v1 w1 h1 => ?_)
      obtain ⟨S2, k2, v0, rfl, rfl, hE2, hcl2, hI2, e9, e14, -, hV⟩ := h1
      obtain ⟨hB2, hR2, hF2, hG2⟩ := hB1.rgo hR1 hE2 (fun y hy => by simp only [List.mem_cons, List.not_mem_nil, or_false] at hy; omega) hcl2 hI2 e9 e14
      have hx2 : xSh S2 := hB2.1
      have hO2 : roK S2 r N := hR2.2.2.2.1
      have hlen : (cL a k2).length ≤ N := nd_len (bfB_nd k2) (fun c hc => Nat.lt_of_lt_of_le (cL_all ha.1 k2 c hc) hI2.2.2.2.2.2.2.2.2)
      have hp0 : 0 < (cL a k2).length := (bfB_pos k2).1
      have hlT : (cL a k2).length ≤ T := by have := (cL_pre hT hI2.2.1).len; omega
      have hBT := bfT_c ha.1 hT
      rcases hV with ⟨t, rfl, t1, t2, t3, t4⟩ | ⟨rfl, t1, t2⟩
      · skip
        refine x_iload_n 27 2 (ab_dd tk_s_way 15 rfl) rfl rfl rfl ?_
        refine t_callV 30 M_ro_deedTo 1 2 [_, _] (ab_dd tk_s_way 16 rfl) rfl (by first | decide | omega) K_ro_deedTo V_ro_deedTo.1 V_ro_deedTo.2 L_s_304 rfl (Nat.le_of_ble_eq_true rfl) (Nat.le_trans (by decide) hr1) (Nat.lt_of_le_of_lt (Nat.le_add_right r 7) hO2.2.1) hO2.2.2.1 rfl (c_ro_deedTo hO2 hlen (by omega) hI2.2.2.2.2.2.2.1.1 (roF_c hT hI2.2.1 hI2.2.2.2.2.2.2.1) hBT.2.2.2.2.2.1 (fun i i1 i2 => hBT.2.2.2.2.2.2 i i1 (by omega)) (gI a T) (roN_c ha.1 hT hI2) (fun _ _ _ e => gI_j31 ha.1 e) (fun i i1 i2 => (hBT.1 i i1 (by omega)).2) t t1 j hj31) (fun v1 w1 h1 => ?_)
        obtain ⟨⟨v0, rfl, hW⟩, rfl⟩ := h1
        exact x_iret (ab_dd tk_s_way 17 rfl) ⟨_, ⟨rfl, S2, a, s1, st2, rfl, hF1.tr hF2, hA1.tr hG2, hB2.up (by omega), hn1.eq hE2 (by simp only [List.mem_cons, List.not_mem_nil, or_false, not_or]; omega)⟩, Or.inr ⟨by first | exact hkn | (rw [← ekq, ← ekj]; exact hkn), way_c ha.1 hT hI2.2.1 t1 t3 t4 hW⟩⟩
      · skip
        refine x_iload_n 27 2 (ab_dd tk_s_way 15 rfl) rfl rfl rfl ?_
        refine t_callV 30 M_ro_deedTo 1 2 [_, _] (ab_dd tk_s_way 16 rfl) rfl (by first | decide | omega) K_ro_deedTo V_ro_deedTo.1 V_ro_deedTo.2 L_s_304 rfl (Nat.le_of_ble_eq_true rfl) (Nat.le_trans (by decide) hr1) (Nat.lt_of_le_of_lt (Nat.le_add_right r 7) hO2.2.1) hO2.2.2.1 rfl (c_ro_deedToN hO2 j hj31) (fun v1 w1 h1 => ?_)
        obtain ⟨rfl, rfl⟩ := h1
        exact x_iret (ab_dd tk_s_way 17 rfl) ⟨_, ⟨rfl, S2, a, s1, st2, rfl, hF1.tr hF2, hA1.tr hG2, hB2.up (by omega), hn1.eq hE2 (by simp only [List.mem_cons, List.not_mem_nil, or_false, not_or]; omega)⟩, Or.inr ⟨by first | exact hkn | (rw [← ekq, ← ekj]; exact hkn), way_n ha.1 hT t1 t2 j⟩⟩
    · refine x_bipush 14 (-3) (ab_dd tk_s_way 6 rfl) rfl (by decide) ?_
      exact x_iret (ab_dd tk_s_way 7 rfl) ⟨-3, ⟨rfl, S, b, st, st2, rfl, fAs.rf, gA.rf, h.up (by omega), ht⟩, Or.inl ⟨fun z => h9 z.2, rfl⟩⟩
