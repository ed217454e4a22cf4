/-! ===== the class's reader: atoms, units ===== -/
def qIfT (tp : Nat → Nat) (n : Nat) (P : Nat → Nat → Nat → pR) (D p : Nat) : pR := pB (P 5 D p) (fun q1 c1 => qX tp n 10 q1 (fun r1 => pB (P 2 D r1) (fun q2 c2 => qX tp n 11 q2 (fun r2 => pB (P 2 D r2) (fun q3 c3 => qX tp n 12 q3 (fun r3 => .inr (r3, c1 ++ c2 ++ c3 ++ [3009])))))))
theorem qIf_T (tp : Nat → Nat) (n : Nat) (P : Nat → Nat → Nat → pR) (deep p : Nat) : qIf tp n P deep p = if deep = 6 then pF tp n p 4 else qIfT tp n P (deep + 1) (tE tp n p) := rfl
def qCm (tp : Nat → Nat) (n : Nat) (P : Nat → Nat → Nat → pR) (deep p : Nat) : pR := pB (P 2 deep p) (fun q c => if 39 ≤ tK tp n q ∧ tK tp n q ≤ 41 then pB (P 2 deep (tE tp n q)) (fun q2 c2 => .inr (q2, c ++ c2 ++ [2964 + tK tp n q])) else pF tp n q 2)
theorem pW_no {la k : Nat} (h : k = 35 ∨ k = 9) : pW la k = none := by
  rcases z : pW la k with _ | w
  · rfl
  · have := pW_24 z; omega
def tb_re_readChoice : List (Nat × Instr × Nat) := [(0, .aload_n 0, 1), (1, .invokevirtual 146, 3), (4, .aload_n 0, 1), (5, .ldc 184, 2), (7, .invokevirtual 69, 3), (10, .aload_n 0, 1), (11, .invokevirtual 149, 3), (14, .aload_n 0, 1), (15, .ldc 186, 2), (17, .invokevirtual 69, 3), (20, .aload_n 0, 1), (21, .invokevirtual 149, 3), (24, .aload_n 0, 1), (25, .ldc 188, 2), (27, .invokevirtual 69, 3), (30, .aload_n 0, 1), (31, .bipush (-19), 2), (33, .invokevirtual 165, 3), (36, .return_, 1)]
theorem tk_re_readChoice : ∀ q ∈ tb_re_readChoice, decode M_re_readChoice.2.1 q.1 = .ok q.2 := by decide +kernel
theorem k_readChoice {G : ab_G} {tp : Nat → Nat} {n la f : Nat} (hla : la < 2) (hS : KM G tp n la M_re_readSum 2 3 f) (hR : KM G tp n la M_re_readTruth 5 6 f) : ∀ (S : ab_S) (N deep p : Nat), qLv S tp n p → sI S 72 9 = nI la → sI S 72 12 = nI N → sI S 72 10 = nI deep → N ≤ p → deep ≤ 6 → 8 * (n - p) + 6 < f → 1 ≤ p → ab_C G (12 * (6 - deep) + 21) M_re_readChoice [.ref 72] (sw S) (qOut S tp n N deep (p - 1) (qIfT tp n (pS tp n la f) deep p)) := by
  intro S N deep p hL h9 hN h10 hNp hdeep hfu hp1
  have hp := hL.2.2.2.2.2.2.1
  have hn9 := hL.2.2.2.1
  have hk42 := tK_lt tp n p
  have hr42 := tN_lt (tp := tp) hp
  have hgap := tK_gap tp n p
  obtain ⟨ck0, ck1, ck2, ck3, ck4⟩ := ckd_i (tK tp n p) hgap
  have ckl := ckd_lt (tK tp n p)
  refine x_enter [some (.ref 72)] (by decide) (Nat.le_of_ble_eq_true rfl) rfl (fun v w' h => by obtain ⟨rfl, -⟩ := h; trivial) ?_
  refine x_aload_n 1 0 (ab_dd tk_re_readChoice 0 rfl) rfl rfl rfl ?_
  refine t_callV 4 M_re_readTruth (12 * (6 - deep) + 8 + 12) 0 [] (ab_dd tk_re_readChoice 1 rfl) rfl (by omega) K_re_readTruth V_re_readTruth.1 V_re_readTruth.2 L_re_146 rfl (Nat.le_of_ble_eq_true rfl) (by decide) (Nat.lt_of_lt_of_le (by decide) hL.1.1) (hL.1.2.1 22 (by decide)) rfl (hR _ N deep p hL (by exact (qF.rf.2 9 (by omega)).trans h9) hN h10 (by first | omega | (simp only [List.length_append, List.length_cons, List.length_nil]; omega)) (by omega) (by omega)) (fun v1 w1 h1 => ?_)
  obtain ⟨rfl, U1, rfl, uF1, uO1⟩ := h1
  rcases hX1 : pS tp n la f 5 deep p with e1 | ⟨q1, c1⟩
  · rw [hX1] at uO1
    obtain ⟨uD1, uB1⟩ := uO1
    refine x_aload_n 5 0 (ab_dd tk_re_readChoice 2 rfl) rfl rfl rfl ?_
    refine x_ldcS 7 11 (ab_dd tk_re_readChoice 3 rfl) rfl (by decide) (List.mem_of_getElem? (i := 11) rfl) ?_
    refine t_callV 10 M_re_needWord 6 1 [_] (ab_dd tk_re_readChoice 4 rfl) rfl (by first | decide | omega) K_re_needWord V_re_needWord.1 V_re_needWord.2 L_re_69 rfl (Nat.le_of_ble_eq_true rfl) (by decide) (Nat.lt_of_lt_of_le (by decide) uD1.1.1) (uD1.1.2.1 22 (by decide)) rfl (DA_needWord uD1 _) (fun v1 w1 h1 => ?_)
    obtain ⟨rfl, U2, rfl, uG2, uD2⟩ := h1
    refine x_aload_n 11 0 (ab_dd tk_re_readChoice 5 rfl) rfl rfl rfl ?_
    refine t_callV 14 M_re_readSum 9 0 [] (ab_dd tk_re_readChoice 6 rfl) rfl (by omega) K_re_readSum V_re_readSum.1 V_re_readSum.2 L_re_149 rfl (Nat.le_of_ble_eq_true rfl) (by decide) (Nat.lt_of_lt_of_le (by decide) uD2.1.1) (uD2.1.2.1 22 (by decide)) rfl (D_re_readSum uD2) (fun v1 w1 h1 => ?_)
    obtain ⟨rfl, U3, rfl, uG3, uD3⟩ := h1
    refine x_aload_n 15 0 (ab_dd tk_re_readChoice 7 rfl) rfl rfl rfl ?_
    refine x_ldcS 17 12 (ab_dd tk_re_readChoice 8 rfl) rfl (by decide) (List.mem_of_getElem? (i := 12) rfl) ?_
    refine t_callV 20 M_re_needWord 6 1 [_] (ab_dd tk_re_readChoice 9 rfl) rfl (by first | decide | omega) K_re_needWord V_re_needWord.1 V_re_needWord.2 L_re_69 rfl (Nat.le_of_ble_eq_true rfl) (by decide) (Nat.lt_of_lt_of_le (by decide) uD3.1.1) (uD3.1.2.1 22 (by decide)) rfl (DA_needWord uD3 _) (fun v1 w1 h1 => ?_)
    obtain ⟨rfl, U4, rfl, uG4, uD4⟩ := h1
    refine x_aload_n 21 0 (ab_dd tk_re_readChoice 10 rfl) rfl rfl rfl ?_
    refine t_callV 24 M_re_readSum 9 0 [] (ab_dd tk_re_readChoice 11 rfl) rfl (by omega) K_re_readSum V_re_readSum.1 V_re_readSum.2 L_re_149 rfl (Nat.le_of_ble_eq_true rfl) (by decide) (Nat.lt_of_lt_of_le (by decide) uD4.1.1) (uD4.1.2.1 22 (by decide)) rfl (D_re_readSum uD4) (fun v1 w1 h1 => ?_)
    obtain ⟨rfl, U5, rfl, uG5, uD5⟩ := h1
    refine x_aload_n 25 0 (ab_dd tk_re_readChoice 12 rfl) rfl rfl rfl ?_
    refine x_ldcS 27 13 (ab_dd tk_re_readChoice 13 rfl) rfl (by decide) (List.mem_of_getElem? (i := 13) rfl) ?_
    refine t_callV 30 M_re_needWord 6 1 [_] (ab_dd tk_re_readChoice 14 rfl) rfl (by first | decide | omega) K_re_needWord V_re_needWord.1 V_re_needWord.2 L_re_69 rfl (Nat.le_of_ble_eq_true rfl) (by decide) (Nat.lt_of_lt_of_le (by decide) uD5.1.1) (uD5.1.2.1 22 (by decide)) rfl (DA_needWord uD5 _) (fun v1 w1 h1 => ?_)
    obtain ⟨rfl, U6, rfl, uG6, uD6⟩ := h1
    refine x_aload_n 31 0 (ab_dd tk_re_readChoice 15 rfl) rfl rfl rfl ?_
    refine x_bipush 33 (-19) (ab_dd tk_re_readChoice 16 rfl) rfl (by decide) ?_
    refine t_callV 36 M_re_put 0 1 [_] (ab_dd tk_re_readChoice 17 rfl) rfl (by first | decide | omega) K_re_put V_re_put.1 V_re_put.2 L_re_165 rfl (Nat.le_of_ble_eq_true rfl) (by decide) (Nat.lt_of_lt_of_le (by decide) uD6.1.1) (uD6.1.2.1 22 (by decide)) rfl (DA_put uD6 _) (fun v1 w1 h1 => ?_)
    obtain ⟨rfl, U7, rfl, uF7, uD7, uB7⟩ := h1
    have hsp : qIfT tp n (pS tp n la f) deep p = .inl (e1) := by
      unfold qIfT
      rw [hX1]
      try rfl
    exact x_vret (ab_dd tk_re_readChoice 18 rfl) ⟨rfl, _, rfl, (((((((qF.rf.tr uF1).tr uG2.F).tr uG3.F).tr uG4.F).tr uG5.F).tr uG6.F).tr uF7), by rw [hsp]; exact ⟨uD7, (uB7 _ (((((uB1.g (uG2.2 12 (by omega))).g (uG3.2 12 (by omega))).g (uG4.2 12 (by omega))).g (uG5.2 12 (by omega))).g (uG6.2 12 (by omega)))).up (by first | omega | (simp only [List.length_append, List.length_cons, List.length_nil]; omega))⟩⟩
  · rw [hX1] at uO1
    obtain ⟨uL1, uC1, uN1, uM1⟩ := uO1
    have hg1 := pS_len _ _ _ _ _ _ hL.2.2.2.2.2.2.1 hX1
    obtain ⟨hga1, hgb1, hgc1, hgd1⟩ := hg1
    have hge1 := hgd1 (by decide)
    have uf1 : sI U1 77 = appL N (sI S 77) c1 := uC1.trans (congrArg (fun z => appL N z c1) rfl)
    have un1 : sI U1 72 12 = nI (N + c1.length) := uN1.trans (congrArg nI (by simp only [List.length_append, List.length_cons, List.length_nil] <;> omega))
    have uL1 : qLv U1 tp n q1 := uL1
    refine x_aload_n 5 0 (ab_dd tk_re_readChoice 2 rfl) rfl rfl rfl ?_
    refine x_ldcS 7 11 (ab_dd tk_re_readChoice 3 rfl) rfl (by decide) (List.mem_of_getElem? (i := 11) rfl) ?_
    refine t_callV 10 M_re_needWord 6 1 [_] (ab_dd tk_re_readChoice 4 rfl) rfl (by first | decide | omega) K_re_needWord V_re_needWord.1 V_re_needWord.2 L_re_69 rfl (Nat.le_of_ble_eq_true rfl) (by decide) (Nat.lt_of_lt_of_le (by decide) uL1.1.1) (uL1.1.2.1 22 (by decide)) rfl (LA_needWord uL1 10 11 (by decide) rfl) (fun v1 w1 h1 => ?_)
    obtain ⟨rfl, U8, rfl, uG8, uO8⟩ := h1
    rcases uO8 with ⟨hk8, uL8⟩ | ⟨hk8, uD8⟩
    · have ht8 := tE_g uL1.2.2.2.2.2.2.1 (show tK tp n q1 ≠ 24 by omega)
      refine x_aload_n 11 0 (ab_dd tk_re_readChoice 5 rfl) rfl rfl rfl ?_
      refine t_callV 14 M_re_readSum (12 * (6 - deep) + 8 + 6) 0 [] (ab_dd tk_re_readChoice 6 rfl) rfl (by omega) K_re_readSum V_re_readSum.1 V_re_readSum.2 L_re_149 rfl (Nat.le_of_ble_eq_true rfl) (by decide) (Nat.lt_of_lt_of_le (by decide) uL8.1.1) (uL8.1.2.1 22 (by decide)) rfl (hS _ (N + c1.length) deep (tE tp n q1) uL8 (by exact (((qF.rf.tr uF1).tr uG8.F).2 9 (by omega)).trans h9) ((uG8.2 12 (by omega)).trans un1) ((uG8.2 10 (by omega)).trans uM1) (by first | omega | (simp only [List.length_append, List.length_cons, List.length_nil]; omega)) (by omega) (by omega)) (fun v1 w1 h1 => ?_)
      obtain ⟨rfl, U9, rfl, uF9, uO9⟩ := h1
      rcases hX9 : pS tp n la f 2 deep (tE tp n q1) with e9 | ⟨q9, c9⟩
      · rw [hX9] at uO9
        obtain ⟨uD9, uB9⟩ := uO9
        refine x_aload_n 15 0 (ab_dd tk_re_readChoice 7 rfl) rfl rfl rfl ?_
        refine x_ldcS 17 12 (ab_dd tk_re_readChoice 8 rfl) rfl (by decide) (List.mem_of_getElem? (i := 12) rfl) ?_
        refine t_callV 20 M_re_needWord 6 1 [_] (ab_dd tk_re_readChoice 9 rfl) rfl (by first | decide | omega) K_re_needWord V_re_needWord.1 V_re_needWord.2 L_re_69 rfl (Nat.le_of_ble_eq_true rfl) (by decide) (Nat.lt_of_lt_of_le (by decide) uD9.1.1) (uD9.1.2.1 22 (by decide)) rfl (DA_needWord uD9 _) (fun v1 w1 h1 => ?_)
        obtain ⟨rfl, U10, rfl, uG10, uD10⟩ := h1
        refine x_aload_n 21 0 (ab_dd tk_re_readChoice 10 rfl) rfl rfl rfl ?_
        refine t_callV 24 M_re_readSum 9 0 [] (ab_dd tk_re_readChoice 11 rfl) rfl (by omega) K_re_readSum V_re_readSum.1 V_re_readSum.2 L_re_149 rfl (Nat.le_of_ble_eq_true rfl) (by decide) (Nat.lt_of_lt_of_le (by decide) uD10.1.1) (uD10.1.2.1 22 (by decide)) rfl (D_re_readSum uD10) (fun v1 w1 h1 => ?_)
        obtain ⟨rfl, U11, rfl, uG11, uD11⟩ := h1
        refine x_aload_n 25 0 (ab_dd tk_re_readChoice 12 rfl) rfl rfl rfl ?_
        refine x_ldcS 27 13 (ab_dd tk_re_readChoice 13 rfl) rfl (by decide) (List.mem_of_getElem? (i := 13) rfl) ?_
        refine t_callV 30 M_re_needWord 6 1 [_] (ab_dd tk_re_readChoice 14 rfl) rfl (by first | decide | omega) K_re_needWord V_re_needWord.1 V_re_needWord.2 L_re_69 rfl (Nat.le_of_ble_eq_true rfl) (by decide) (Nat.lt_of_lt_of_le (by decide) uD11.1.1) (uD11.1.2.1 22 (by decide)) rfl (DA_needWord uD11 _) (fun v1 w1 h1 => ?_)
        obtain ⟨rfl, U12, rfl, uG12, uD12⟩ := h1
        refine x_aload_n 31 0 (ab_dd tk_re_readChoice 15 rfl) rfl rfl rfl ?_
        refine x_bipush 33 (-19) (ab_dd tk_re_readChoice 16 rfl) rfl (by decide) ?_
        refine t_callV 36 M_re_put 0 1 [_] (ab_dd tk_re_readChoice 17 rfl) rfl (by first | decide | omega) K_re_put V_re_put.1 V_re_put.2 L_re_165 rfl (Nat.le_of_ble_eq_true rfl) (by decide) (Nat.lt_of_lt_of_le (by decide) uD12.1.1) (uD12.1.2.1 22 (by decide)) rfl (DA_put uD12 _) (fun v1 w1 h1 => ?_)
        obtain ⟨rfl, U13, rfl, uF13, uD13, uB13⟩ := h1
        have hsp : qIfT tp n (pS tp n la f) deep p = .inl (e9) := by
          unfold qIfT
          rw [hX1, pB_r]
          try dsimp only
          try unfold qX
          rw [if_pos hk8]
          try dsimp only
          rw [hX9]
          try rfl
        exact x_vret (ab_dd tk_re_readChoice 18 rfl) ⟨rfl, _, rfl, (((((((qF.rf.tr uF1).tr uG8.F).tr uF9).tr uG10.F).tr uG11.F).tr uG12.F).tr uF13), by rw [hsp]; exact ⟨uD13, (uB13 _ (((uB9.g (uG10.2 12 (by omega))).g (uG11.2 12 (by omega))).g (uG12.2 12 (by omega)))).up (by first | omega | (simp only [List.length_append, List.length_cons, List.length_nil]; omega))⟩⟩
      · rw [hX9] at uO9
        obtain ⟨uL9, uC9, uN9, uM9⟩ := uO9
        have hg9 := pS_len _ _ _ _ _ _ uL8.2.2.2.2.2.2.1 hX9
        obtain ⟨hga9, hgb9, hgc9, hgd9⟩ := hg9
        have hge9 := hgd9 (by decide)
        have uf9 : sI U9 77 = appL N (sI S 77) (c1 ++ c9) := by rw [uC9, (uG8.la.trans uf1), appL_app]
        have un9 : sI U9 72 12 = nI (N + (c1 ++ c9).length) := uN9.trans (congrArg nI (by simp only [List.length_append, List.length_cons, List.length_nil] <;> omega))
        have uL9 : qLv U9 tp n q9 := uL9
        refine x_aload_n 15 0 (ab_dd tk_re_readChoice 7 rfl) rfl rfl rfl ?_
        refine x_ldcS 17 12 (ab_dd tk_re_readChoice 8 rfl) rfl (by decide) (List.mem_of_getElem? (i := 12) rfl) ?_
        refine t_callV 20 M_re_needWord 6 1 [_] (ab_dd tk_re_readChoice 9 rfl) rfl (by first | decide | omega) K_re_needWord V_re_needWord.1 V_re_needWord.2 L_re_69 rfl (Nat.le_of_ble_eq_true rfl) (by decide) (Nat.lt_of_lt_of_le (by decide) uL9.1.1) (uL9.1.2.1 22 (by decide)) rfl (LA_needWord uL9 11 12 (by decide) rfl) (fun v1 w1 h1 => ?_)
        obtain ⟨rfl, U14, rfl, uG14, uO14⟩ := h1
        rcases uO14 with ⟨hk14, uL14⟩ | ⟨hk14, uD14⟩
        · have ht14 := tE_g uL9.2.2.2.2.2.2.1 (show tK tp n q9 ≠ 24 by omega)
          refine x_aload_n 21 0 (ab_dd tk_re_readChoice 10 rfl) rfl rfl rfl ?_
          refine t_callV 24 M_re_readSum (12 * (6 - deep) + 8 + 6) 0 [] (ab_dd tk_re_readChoice 11 rfl) rfl (by omega) K_re_readSum V_re_readSum.1 V_re_readSum.2 L_re_149 rfl (Nat.le_of_ble_eq_true rfl) (by decide) (Nat.lt_of_lt_of_le (by decide) uL14.1.1) (uL14.1.2.1 22 (by decide)) rfl (hS _ (N + (c1 ++ c9).length) deep (tE tp n q9) uL14 (by exact (((((qF.rf.tr uF1).tr uG8.F).tr uF9).tr uG14.F).2 9 (by omega)).trans h9) ((uG14.2 12 (by omega)).trans un9) ((uG14.2 10 (by omega)).trans uM9) (by first | omega | (simp only [List.length_append, List.length_cons, List.length_nil]; omega)) (by omega) (by omega)) (fun v1 w1 h1 => ?_)
          obtain ⟨rfl, U15, rfl, uF15, uO15⟩ := h1
          rcases hX15 : pS tp n la f 2 deep (tE tp n q9) with e15 | ⟨q15, c15⟩
          · rw [hX15] at uO15
            obtain ⟨uD15, uB15⟩ := uO15
            refine x_aload_n 25 0 (ab_dd tk_re_readChoice 12 rfl) rfl rfl rfl ?_
            refine x_ldcS 27 13 (ab_dd tk_re_readChoice 13 rfl) rfl (by decide) (List.mem_of_getElem? (i := 13) rfl) ?_
            refine t_callV 30 M_re_needWord 6 1 [_] (ab_dd tk_re_readChoice 14 rfl) rfl (by first | decide | omega) K_re_needWord V_re_needWord.1 V_re_needWord.2 L_re_69 rfl (Nat.le_of_ble_eq_true rfl) (by decide) (Nat.lt_of_lt_of_le (by decide) uD15.1.1) (uD15.1.2.1 22 (by decide)) rfl (DA_needWord uD15 _) (fun v1 w1 h1 => ?_)
            obtain ⟨rfl, U16, rfl, uG16, uD16⟩ := h1
            refine x_aload_n 31 0 (ab_dd tk_re_readChoice 15 rfl) rfl rfl rfl ?_
            refine x_bipush 33 (-19) (ab_dd tk_re_readChoice 16 rfl) rfl (by decide) ?_
            refine t_callV 36 M_re_put 0 1 [_] (ab_dd tk_re_readChoice 17 rfl) rfl (by first | decide | omega) K_re_put V_re_put.1 V_re_put.2 L_re_165 rfl (Nat.le_of_ble_eq_true rfl) (by decide) (Nat.lt_of_lt_of_le (by decide) uD16.1.1) (uD16.1.2.1 22 (by decide)) rfl (DA_put uD16 _) (fun v1 w1 h1 => ?_)
            obtain ⟨rfl, U17, rfl, uF17, uD17, uB17⟩ := h1
            have hsp : qIfT tp n (pS tp n la f) deep p = .inl (e15) := by
              unfold qIfT
              rw [hX1, pB_r]
              try dsimp only
              try unfold qX
              rw [if_pos hk8]
              try dsimp only
              rw [hX9, pB_r]
              try dsimp only
              try unfold qX
              rw [if_pos hk14]
              try dsimp only
              rw [hX15]
              try rfl
            exact x_vret (ab_dd tk_re_readChoice 18 rfl) ⟨rfl, _, rfl, (((((((qF.rf.tr uF1).tr uG8.F).tr uF9).tr uG14.F).tr uF15).tr uG16.F).tr uF17), by rw [hsp]; exact ⟨uD17, (uB17 _ (uB15.g (uG16.2 12 (by omega)))).up (by first | omega | (simp only [List.length_append, List.length_cons, List.length_nil]; omega))⟩⟩
          · rw [hX15] at uO15
            obtain ⟨uL15, uC15, uN15, uM15⟩ := uO15
            have hg15 := pS_len _ _ _ _ _ _ uL14.2.2.2.2.2.2.1 hX15
            obtain ⟨hga15, hgb15, hgc15, hgd15⟩ := hg15
            have hge15 := hgd15 (by decide)
            have uf15 : sI U15 77 = appL N (sI S 77) ((c1 ++ c9) ++ c15) := by rw [uC15, (uG14.la.trans uf9), appL_app]
            have un15 : sI U15 72 12 = nI (N + ((c1 ++ c9) ++ c15).length) := uN15.trans (congrArg nI (by simp only [List.length_append, List.length_cons, List.length_nil] <;> omega))
            have uL15 : qLv U15 tp n q15 := uL15
            refine x_aload_n 25 0 (ab_dd tk_re_readChoice 12 rfl) rfl rfl rfl ?_
            refine x_ldcS 27 13 (ab_dd tk_re_readChoice 13 rfl) rfl (by decide) (List.mem_of_getElem? (i := 13) rfl) ?_
            refine t_callV 30 M_re_needWord 6 1 [_] (ab_dd tk_re_readChoice 14 rfl) rfl (by first | decide | omega) K_re_needWord V_re_needWord.1 V_re_needWord.2 L_re_69 rfl (Nat.le_of_ble_eq_true rfl) (by decide) (Nat.lt_of_lt_of_le (by decide) uL15.1.1) (uL15.1.2.1 22 (by decide)) rfl (LA_needWord uL15 12 13 (by decide) rfl) (fun v1 w1 h1 => ?_)
            obtain ⟨rfl, U18, rfl, uG18, uO18⟩ := h1
            rcases uO18 with ⟨hk18, uL18⟩ | ⟨hk18, uD18⟩
            · have ht18 := tE_g uL15.2.2.2.2.2.2.1 (show tK tp n q15 ≠ 24 by omega)
              refine x_aload_n 31 0 (ab_dd tk_re_readChoice 15 rfl) rfl rfl rfl ?_
              refine x_bipush 33 (-19) (ab_dd tk_re_readChoice 16 rfl) rfl (by decide) ?_
              refine t_callV 36 M_re_put 0 1 [_] (ab_dd tk_re_readChoice 17 rfl) rfl (by first | decide | omega) K_re_put V_re_put.1 V_re_put.2 L_re_165 rfl (Nat.le_of_ble_eq_true rfl) (by decide) (Nat.lt_of_lt_of_le (by decide) uL18.1.1) (uL18.1.2.1 22 (by decide)) rfl (LA_put uL18 ((uG18.2 12 (by omega)).trans un15) (by first | omega | (simp only [List.length_append, List.length_cons, List.length_nil]; omega)) 3009 _ (by decide)) (fun v1 w1 h1 => ?_)
              obtain ⟨rfl, U19, rfl, uF19, uL19, uC19, uN19, uM19⟩ := h1
              have uf19 : sI U19 77 = appL N (sI S 77) (((c1 ++ c9) ++ c15) ++ [3009]) := by rw [uC19, (uG18.la.trans uf15), appL_app]
              have un19 : sI U19 72 12 = nI (N + (((c1 ++ c9) ++ c15) ++ [3009]).length) := uN19.trans (congrArg nI (by simp only [List.length_append, List.length_cons, List.length_nil] <;> omega))
              have hsp : qIfT tp n (pS tp n la f) deep p = .inr ((tE tp n q15), (((c1 ++ c9) ++ c15) ++ [3009])) := by
                unfold qIfT
                rw [hX1, pB_r]
                try dsimp only
                try unfold qX
                rw [if_pos hk8]
                try dsimp only
                rw [hX9, pB_r]
                try dsimp only
                try unfold qX
                rw [if_pos hk14]
                try dsimp only
                rw [hX15, pB_r]
                try dsimp only
                try unfold qX
                rw [if_pos hk18]
                try dsimp only
                try rfl
              exact x_vret (ab_dd tk_re_readChoice 18 rfl) ⟨rfl, _, rfl, (((((((qF.rf.tr uF1).tr uG8.F).tr uF9).tr uG14.F).tr uF15).tr uG18.F).tr uF19), by rw [hsp]; exact ⟨uL19, uf19, un19, (uM19.trans ((uG18.2 10 (by omega)).trans uM15))⟩⟩
            · skip
              refine x_aload_n 31 0 (ab_dd tk_re_readChoice 15 rfl) rfl rfl rfl ?_
              refine x_bipush 33 (-19) (ab_dd tk_re_readChoice 16 rfl) rfl (by decide) ?_
              refine t_callV 36 M_re_put 0 1 [_] (ab_dd tk_re_readChoice 17 rfl) rfl (by first | decide | omega) K_re_put V_re_put.1 V_re_put.2 L_re_165 rfl (Nat.le_of_ble_eq_true rfl) (by decide) (Nat.lt_of_lt_of_le (by decide) uD18.1.1) (uD18.1.2.1 22 (by decide)) rfl (DA_put uD18 _) (fun v1 w1 h1 => ?_)
              obtain ⟨rfl, U20, rfl, uF20, uD20, uB20⟩ := h1
              have hsp : qIfT tp n (pS tp n la f) deep p = .inl ((pE tp n q15 2)) := by
                unfold qIfT
                rw [hX1, pB_r]
                try dsimp only
                try unfold qX
                rw [if_pos hk8]
                try dsimp only
                rw [hX9, pB_r]
                try dsimp only
                try unfold qX
                rw [if_pos hk14]
                try dsimp only
                rw [hX15, pB_r]
                try dsimp only
                try unfold qX
                rw [if_neg hk18]
                try rfl
              exact x_vret (ab_dd tk_re_readChoice 18 rfl) ⟨rfl, _, rfl, (((((((qF.rf.tr uF1).tr uG8.F).tr uF9).tr uG14.F).tr uF15).tr uG18.F).tr uF20), by rw [hsp]; exact ⟨uD20, (uB20 _ (bL.g (S := _) ⟨_, Nat.le_refl _, (by first | omega | (simp only [List.length_append, List.length_cons, List.length_nil]; omega)), un15⟩ (uG18.2 12 (by omega)))).up (by first | omega | (simp only [List.length_append, List.length_cons, List.length_nil]; omega))⟩⟩
        · skip
          refine x_aload_n 21 0 (ab_dd tk_re_readChoice 10 rfl) rfl rfl rfl ?_
          refine t_callV 24 M_re_readSum 9 0 [] (ab_dd tk_re_readChoice 11 rfl) rfl (by omega) K_re_readSum V_re_readSum.1 V_re_readSum.2 L_re_149 rfl (Nat.le_of_ble_eq_true rfl) (by decide) (Nat.lt_of_lt_of_le (by decide) uD14.1.1) (uD14.1.2.1 22 (by decide)) rfl (D_re_readSum uD14) (fun v1 w1 h1 => ?_)
          obtain ⟨rfl, U21, rfl, uG21, uD21⟩ := h1
          refine x_aload_n 25 0 (ab_dd tk_re_readChoice 12 rfl) rfl rfl rfl ?_
          refine x_ldcS 27 13 (ab_dd tk_re_readChoice 13 rfl) rfl (by decide) (List.mem_of_getElem? (i := 13) rfl) ?_
          refine t_callV 30 M_re_needWord 6 1 [_] (ab_dd tk_re_readChoice 14 rfl) rfl (by first | decide | omega) K_re_needWord V_re_needWord.1 V_re_needWord.2 L_re_69 rfl (Nat.le_of_ble_eq_true rfl) (by decide) (Nat.lt_of_lt_of_le (by decide) uD21.1.1) (uD21.1.2.1 22 (by decide)) rfl (DA_needWord uD21 _) (fun v1 w1 h1 => ?_)
          obtain ⟨rfl, U22, rfl, uG22, uD22⟩ := h1
          refine x_aload_n 31 0 (ab_dd tk_re_readChoice 15 rfl) rfl rfl rfl ?_
          refine x_bipush 33 (-19) (ab_dd tk_re_readChoice 16 rfl) rfl (by decide) ?_
          refine t_callV 36 M_re_put 0 1 [_] (ab_dd tk_re_readChoice 17 rfl) rfl (by first | decide | omega) K_re_put V_re_put.1 V_re_put.2 L_re_165 rfl (Nat.le_of_ble_eq_true rfl) (by decide) (Nat.lt_of_lt_of_le (by decide) uD22.1.1) (uD22.1.2.1 22 (by decide)) rfl (DA_put uD22 _) (fun v1 w1 h1 => ?_)
          obtain ⟨rfl, U23, rfl, uF23, uD23, uB23⟩ := h1
          have hsp : qIfT tp n (pS tp n la f) deep p = .inl ((pE tp n q9 2)) := by
            unfold qIfT
            rw [hX1, pB_r]
            try dsimp only
            try unfold qX
            rw [if_pos hk8]
            try dsimp only
            rw [hX9, pB_r]
            try dsimp only
            try unfold qX
            rw [if_neg hk14]
            try rfl
          exact x_vret (ab_dd tk_re_readChoice 18 rfl) ⟨rfl, _, rfl, (((((((qF.rf.tr uF1).tr uG8.F).tr uF9).tr uG14.F).tr uG21.F).tr uG22.F).tr uF23), by rw [hsp]; exact ⟨uD23, (uB23 _ (((bL.g (S := _) ⟨_, Nat.le_refl _, (by first | omega | (simp only [List.length_append, List.length_cons, List.length_nil]; omega)), un9⟩ (uG14.2 12 (by omega))).g (uG21.2 12 (by omega))).g (uG22.2 12 (by omega)))).up (by first | omega | (simp only [List.length_append, List.length_cons, List.length_nil]; omega))⟩⟩
    · skip
      refine x_aload_n 11 0 (ab_dd tk_re_readChoice 5 rfl) rfl rfl rfl ?_
      refine t_callV 14 M_re_readSum 9 0 [] (ab_dd tk_re_readChoice 6 rfl) rfl (by omega) K_re_readSum V_re_readSum.1 V_re_readSum.2 L_re_149 rfl (Nat.le_of_ble_eq_true rfl) (by decide) (Nat.lt_of_lt_of_le (by decide) uD8.1.1) (uD8.1.2.1 22 (by decide)) rfl (D_re_readSum uD8) (fun v1 w1 h1 => ?_)
      obtain ⟨rfl, U24, rfl, uG24, uD24⟩ := h1
      refine x_aload_n 15 0 (ab_dd tk_re_readChoice 7 rfl) rfl rfl rfl ?_
      refine x_ldcS 17 12 (ab_dd tk_re_readChoice 8 rfl) rfl (by decide) (List.mem_of_getElem? (i := 12) rfl) ?_
      refine t_callV 20 M_re_needWord 6 1 [_] (ab_dd tk_re_readChoice 9 rfl) rfl (by first | decide | omega) K_re_needWord V_re_needWord.1 V_re_needWord.2 L_re_69 rfl (Nat.le_of_ble_eq_true rfl) (by decide) (Nat.lt_of_lt_of_le (by decide) uD24.1.1) (uD24.1.2.1 22 (by decide)) rfl (DA_needWord uD24 _) (fun v1 w1 h1 => ?_)
      obtain ⟨rfl, U25, rfl, uG25, uD25⟩ := h1
      refine x_aload_n 21 0 (ab_dd tk_re_readChoice 10 rfl) rfl rfl rfl ?_
      refine t_callV 24 M_re_readSum 9 0 [] (ab_dd tk_re_readChoice 11 rfl) rfl (by omega) K_re_readSum V_re_readSum.1 V_re_readSum.2 L_re_149 rfl (Nat.le_of_ble_eq_true rfl) (by decide) (Nat.lt_of_lt_of_le (by decide) uD25.1.1) (uD25.1.2.1 22 (by decide)) rfl (D_re_readSum uD25) (fun v1 w1 h1 => ?_)
      obtain ⟨rfl, U26, rfl, uG26, uD26⟩ := h1
      refine x_aload_n 25 0 (ab_dd tk_re_readChoice 12 rfl) rfl rfl rfl ?_
      refine x_ldcS 27 13 (ab_dd tk_re_readChoice 13 rfl) rfl (by decide) (List.mem_of_getElem? (i := 13) rfl) ?_
      refine t_callV 30 M_re_needWord 6 1 [_] (ab_dd tk_re_readChoice 14 rfl) rfl (by first | decide | omega) K_re_needWord V_re_needWord.1 V_re_needWord.2 L_re_69 rfl (Nat.le_of_ble_eq_true rfl) (by decide) (Nat.lt_of_lt_of_le (by decide) uD26.1.1) (uD26.1.2.1 22 (by decide)) rfl (DA_needWord uD26 _) (fun v1 w1 h1 => ?_)
      obtain ⟨rfl, U27, rfl, uG27, uD27⟩ := h1
      refine x_aload_n 31 0 (ab_dd tk_re_readChoice 15 rfl) rfl rfl rfl ?_
      refine x_bipush 33 (-19) (ab_dd tk_re_readChoice 16 rfl) rfl (by decide) ?_
      refine t_callV 36 M_re_put 0 1 [_] (ab_dd tk_re_readChoice 17 rfl) rfl (by first | decide | omega) K_re_put V_re_put.1 V_re_put.2 L_re_165 rfl (Nat.le_of_ble_eq_true rfl) (by decide) (Nat.lt_of_lt_of_le (by decide) uD27.1.1) (uD27.1.2.1 22 (by decide)) rfl (DA_put uD27 _) (fun v1 w1 h1 => ?_)
      obtain ⟨rfl, U28, rfl, uF28, uD28, uB28⟩ := h1
      have hsp : qIfT tp n (pS tp n la f) deep p = .inl ((pE tp n q1 2)) := by
        unfold qIfT
        rw [hX1, pB_r]
        try dsimp only
        try unfold qX
        rw [if_neg hk8]
        try rfl
      exact x_vret (ab_dd tk_re_readChoice 18 rfl) ⟨rfl, _, rfl, (((((((qF.rf.tr uF1).tr uG8.F).tr uG24.F).tr uG25.F).tr uG26.F).tr uG27.F).tr uF28), by rw [hsp]; exact ⟨uD28, (uB28 _ (((((bL.g (S := _) ⟨_, Nat.le_refl _, (by first | omega | (simp only [List.length_append, List.length_cons, List.length_nil]; omega)), un1⟩ (uG8.2 12 (by omega))).g (uG24.2 12 (by omega))).g (uG25.2 12 (by omega))).g (uG26.2 12 (by omega))).g (uG27.2 12 (by omega)))).up (by first | omega | (simp only [List.length_append, List.length_cons, List.length_nil]; omega))⟩⟩
theorem k_readAtom {G : ab_G} {tp : Nat → Nat} {n la f : Nat} (hla : la < 2) (hS : KM G tp n la M_re_readSum 2 3 f) (hR : KM G tp n la M_re_readTruth 5 6 f) : KM G tp n la M_re_readAtom 0 1 (f + 1) := by
  intro S N deep p hL h9 hN h10 hNp hdeep hfu
  have hp := hL.2.2.2.2.2.2.1
  have hn9 := hL.2.2.2.1
  have hk42 := tK_lt tp n p
  have hr42 := tN_lt (tp := tp) hp
  have hgap := tK_gap tp n p
  obtain ⟨ck0, ck1, ck2, ck3, ck4⟩ := ckd_i (tK tp n p) hgap
  have ckl := ckd_lt (tK tp n p)
  refine x_enter [some (.ref 72)] (by decide) (Nat.le_of_ble_eq_true rfl) rfl (fun v w' h => by obtain ⟨rfl, -⟩ := h; trivial) ?_
  refine x_aload_n 1 0 (ab_dd tk_re_readAtom 0 rfl) rfl rfl rfl ?_
  refine t_getI 4 (ab_dd tk_re_readAtom 1 rfl) rfl F_re_25 (by decide) (Nat.lt_of_lt_of_le (by decide) hL.1.1) (hL.1.2.1 22 (by decide)) rfl (x_topn (ckd (tK tp n p)) hL.2.2.2.2.2.2.2.1.2.2.1 ?_)
  refine x_iconst 5 2 (ab_dd tk_re_readAtom 2 rfl) rfl (by decide) (x_topn 2 rfl ?_)
  refine xn_icmp_ne 8 23 (ab_dd tk_re_readAtom 3 rfl) rfl (by decide) (by omega) (by omega) (fun h5 => ?_) (fun h5 => ?_)
  · refine x_aload_n 24 0 (ab_dd tk_re_readAtom 11 rfl) rfl rfl rfl ?_
    refine x_bipush 26 40 (ab_dd tk_re_readAtom 12 rfl) rfl (by decide) (x_topn 40 rfl ?_)
    refine t_callV 29 M_re_isSign 0 1 [_] (ab_dd tk_re_readAtom 13 rfl) rfl (by first | decide | omega) K_re_isSign V_re_isSign.1 V_re_isSign.2 L_re_161 rfl (Nat.le_of_ble_eq_true rfl) (by decide) (Nat.lt_of_lt_of_le (by decide) hL.1.1) (hL.1.2.1 22 (by decide)) rfl (LA_sg hL 5 40 (by decide) (by decide)) (fun v1 w1 h1 => ?_)
    obtain ⟨rfl, rfl⟩ := h1
    refine xb_if_eq 32 62 (ab_dd tk_re_readAtom 14 rfl) rfl (by decide) (fun h29 => ?_) (fun h29 => ?_)
    · refine x_aload_n 63 0 (ab_dd tk_re_readAtom 30 rfl) rfl rfl rfl ?_
      refine x_ldcS 65 10 (ab_dd tk_re_readAtom 31 rfl) rfl (by decide) (List.mem_of_getElem? (i := 10) rfl) ?_
      refine t_callV 68 M_re_isWord 4 1 [_] (ab_dd tk_re_readAtom 32 rfl) rfl (by first | decide | omega) K_re_isWord V_re_isWord.1 V_re_isWord.2 L_re_93 rfl (Nat.le_of_ble_eq_true rfl) (by decide) (Nat.lt_of_lt_of_le (by decide) hL.1.1) (hL.1.2.1 22 (by decide)) rfl (LA_isWord hL 9 10 (by decide) rfl) (fun v1 w1 h1 => ?_)
      obtain ⟨rfl, rfl⟩ := h1
      refine xb_if_eq 71 95 (ab_dd tk_re_readAtom 33 rfl) rfl (by decide) (fun h68 => ?_) (fun h68 => ?_)
      · refine x_aload_n 96 0 (ab_dd tk_re_readAtom 46 rfl) rfl rfl rfl ?_
        refine t_callV 99 M_re_nameHere 5 0 [] (ab_dd tk_re_readAtom 47 rfl) rfl (by first | decide | omega) K_re_nameHere V_re_nameHere.1 V_re_nameHere.2 L_re_180 rfl (Nat.le_of_ble_eq_true rfl) (by decide) (Nat.lt_of_lt_of_le (by decide) hL.1.1) (hL.1.2.1 22 (by decide)) rfl (LA_nameHere hL la hla (by exact (qF.rf.2 9 (by omega)).trans h9)) (fun v1 w1 h1 => ?_)
        obtain ⟨rfl, rfl⟩ := h1
        rcases hw : pW la (tK tp n p) with _ | w0
        · show ab_Ex _ _ _ _ _ (.int (nI 0) :: _) _ _
          refine x_if_eq_t 117 (ab_dd tk_re_readAtom 48 rfl) (by decide) ((nI_eq (a := 0) (b := 0) (by omega) (by omega)).mpr (show 0 = 0 by rfl)) ?_
          refine x_aload_n 118 0 (ab_dd tk_re_readAtom 56 rfl) rfl rfl rfl ?_
          refine x_iconst 119 2 (ab_dd tk_re_readAtom 57 rfl) rfl (by decide) (x_topn 2 rfl ?_)
          refine t_callV 122 M_re_refuse 0 1 [_] (ab_dd tk_re_readAtom 58 rfl) rfl (by first | decide | omega) K_re_refuse V_re_refuse.1 V_re_refuse.2 L_re_114 rfl (Nat.le_of_ble_eq_true rfl) (by decide) (Nat.lt_of_lt_of_le (by decide) hL.1.1) (hL.1.2.1 22 (by decide)) rfl (LA_refuse hL 2 (by decide) (by decide)) (fun v1 w1 h1 => ?_)
          obtain ⟨rfl, U1, rfl, uG1, uD1⟩ := h1
          have hsp : pS tp n la (f + 1) 0 deep p = .inl ((pE tp n p 2)) := by
            show qAt _ _ _ _ _ _ = _
            unfold qAt
            rw [if_neg (show ¬ tK tp n p = 23 by omega), hw]
            show (if _ then _ else _) = _
            rw [if_neg h29]
            rw [if_neg h68]
            try rfl
          exact x_vret (ab_dd tk_re_readAtom 59 rfl) ⟨rfl, _, rfl, (qF.rf.tr uG1.F), by rw [hsp]; exact ⟨uD1, (bL.g (S := _) ⟨_, Nat.le_refl _, (by first | omega | (simp only [List.length_append, List.length_cons, List.length_nil]; omega)), hN⟩ (uG1.2 12 (by omega))).up (by first | omega | (simp only [List.length_append, List.length_cons, List.length_nil]; omega))⟩⟩
        · show ab_Ex _ _ _ _ _ (.int (cvt (nI (1000 + w0))) :: _) _ _
          have hw24 := pW_24 hw
          have hw9 := pW_lt hw
          have hg := tE_g (tp := tp) hp hw24.1
          refine x_if_eq_f 102 (ab_dd tk_re_readAtom 48 rfl) rfl 117 (by decide) (fun z => by have y := ((cvt_lo (y := 1000 + w0) (by omega)).2.2 (by omega)).1; rw [z] at y; exact absurd y (by decide)) ?_
          refine x_aload_n 103 0 (ab_dd tk_re_readAtom 49 rfl) rfl rfl rfl ?_
          refine x_aload_n 104 0 (ab_dd tk_re_readAtom 50 rfl) rfl rfl rfl ?_
          refine t_callV 107 M_re_nameHere 5 0 [] (ab_dd tk_re_readAtom 51 rfl) rfl (by first | decide | omega) K_re_nameHere V_re_nameHere.1 V_re_nameHere.2 L_re_180 rfl (Nat.le_of_ble_eq_true rfl) (by decide) (Nat.lt_of_lt_of_le (by decide) hL.1.1) (hL.1.2.1 22 (by decide)) rfl (LA_nameHere hL la hla (by exact (qF.rf.2 9 (by omega)).trans h9)) (fun v1 w1 h1 => ?_)
          obtain ⟨rfl, rfl⟩ := h1
          rw [hw]
          show ab_Ex _ _ _ _ _ (.int (cvt (nI (1000 + w0))) :: _) _ _
          refine t_callV 110 M_re_put 0 1 [_] (ab_dd tk_re_readAtom 52 rfl) rfl (by first | decide | omega) K_re_put V_re_put.1 V_re_put.2 L_re_165 rfl (Nat.le_of_ble_eq_true rfl) (by decide) (Nat.lt_of_lt_of_le (by decide) hL.1.1) (hL.1.2.1 22 (by decide)) rfl (LA_put hL hN (by first | omega | (simp only [List.length_append, List.length_cons, List.length_nil]; omega)) (1000 + w0) _ rfl) (fun v1 w1 h1 => ?_)
          obtain ⟨rfl, U2, rfl, uF2, uL2, uC2, uN2, uM2⟩ := h1
          have uf2 : sI U2 77 = appL N (sI S 77) [(1000 + w0)] := uC2.trans (congrArg (fun z => appL N z [(1000 + w0)]) rfl)
          have un2 : sI U2 72 12 = nI (N + ([(1000 + w0)]).length) := uN2.trans (congrArg nI (by simp only [List.length_append, List.length_cons, List.length_nil] <;> omega))
          refine x_aload_n 111 0 (ab_dd tk_re_readAtom 53 rfl) rfl rfl rfl ?_
          refine t_callV 114 M_re_advance 5 0 [] (ab_dd tk_re_readAtom 54 rfl) rfl (by first | decide | omega) K_re_advance V_re_advance.1 V_re_advance.2 L_re_64 rfl (Nat.le_of_ble_eq_true rfl) (by decide) (Nat.lt_of_lt_of_le (by decide) uL2.1.1) (uL2.1.2.1 22 (by decide)) rfl (LA_adv uL2 (by omega)) (fun v1 w1 h1 => ?_)
          obtain ⟨rfl, U3, rfl, uG3, uL3⟩ := h1
          have ht3 := tE_g uL2.2.2.2.2.2.2.1 (show tK tp n p ≠ 24 by omega)
          refine x_goto 122 (ab_dd tk_re_readAtom 55 rfl) (by decide) ?_
          have hsp : pS tp n la (f + 1) 0 deep p = .inr ((tE tp n p), [(1000 + w0)]) := by
            show qAt _ _ _ _ _ _ = _
            unfold qAt
            rw [if_neg (show ¬ tK tp n p = 23 by omega), hw]
            try rfl
          exact x_vret (ab_dd tk_re_readAtom 59 rfl) ⟨rfl, _, rfl, ((qF.rf.tr uF2).tr uG3.F), by rw [hsp]; exact ⟨uL3, (uG3.la.trans uf2), ((uG3.2 12 (by omega)).trans un2), ((uG3.2 10 (by omega)).trans (uM2.trans h10))⟩⟩
      · have hw : pW la (tK tp n p) = none := pW_no (by omega)
        refine x_aload_n 72 0 (ab_dd tk_re_readAtom 34 rfl) rfl rfl rfl ?_
        refine t_callV 75 M_re_enter 6 0 [] (ab_dd tk_re_readAtom 35 rfl) rfl (by first | decide | omega) K_re_enter V_re_enter.1 V_re_enter.2 L_re_171 rfl (Nat.le_of_ble_eq_true rfl) (by decide) (Nat.lt_of_lt_of_le (by decide) hL.1.1) (hL.1.2.1 22 (by decide)) rfl (LA_enter hL deep hdeep h10 (by omega)) (fun v1 w1 h1 => ?_)
        rcases h1 with ⟨hd4, rfl, U4, rfl, uF4, uD4, uB4⟩ | ⟨hd4, rfl, U4, rfl, uF4, uC4, uN4, uM4, uL4⟩
        · skip
          refine x_if_eq_t 122 (ab_dd tk_re_readAtom 36 rfl) (by decide) (by decide) ?_
          have hsp : pS tp n la (f + 1) 0 deep p = .inl ((pE tp n p 4)) := by
            show qAt _ _ _ _ _ _ = _
            unfold qAt
            rw [if_neg (show ¬ tK tp n p = 23 by omega), hw]
            show (if _ then _ else _) = _
            rw [if_neg h29]
            rw [if_pos h68, qIf_T]
            rw [if_pos hd4]
            try rfl
          exact x_vret (ab_dd tk_re_readAtom 59 rfl) ⟨rfl, _, rfl, (qF.rf.tr uF4), by rw [hsp]; exact ⟨uD4, (bL.g (S := _) ⟨_, Nat.le_refl _, (by first | omega | (simp only [List.length_append, List.length_cons, List.length_nil]; omega)), hN⟩ uB4).up (by first | omega | (simp only [List.length_append, List.length_cons, List.length_nil]; omega))⟩⟩
        · have ht4 := tE_g hL.2.2.2.2.2.2.1 (show tK tp n p ≠ 24 by omega)
          refine x_if_eq_f 78 (ab_dd tk_re_readAtom 36 rfl) rfl 122 (by decide) (by decide) ?_
          refine x_aload_n 79 0 (ab_dd tk_re_readAtom 37 rfl) rfl rfl rfl ?_
          refine t_callV 82 M_re_readChoice (12 * (6 - (deep + 1)) + 21) 0 [] (ab_dd tk_re_readAtom 38 rfl) rfl (by omega) K_re_readChoice V_re_readChoice.1 V_re_readChoice.2 L_re_177 rfl (Nat.le_of_ble_eq_true rfl) (by decide) (Nat.lt_of_lt_of_le (by decide) uL4.1.1) (uL4.1.2.1 22 (by decide)) rfl (k_readChoice hla hS hR _ N (deep + 1) (tE tp n p) uL4 (by exact ((qF.rf.tr uF4).2 9 (by omega)).trans h9) (uN4.trans hN) uM4 (by omega) (by omega) (by omega) (by omega)) (fun v1 w1 h1 => ?_)
          obtain ⟨rfl, U5, rfl, uF5, uO5⟩ := h1
          rcases hX5 : qIfT tp n (pS tp n la f) (deep + 1) (tE tp n p) with e5 | ⟨q5, c5⟩
          · rw [hX5] at uO5
            obtain ⟨uD5, uB5⟩ := uO5
            refine x_aload_n 83 0 (ab_dd tk_re_readAtom 39 rfl) rfl rfl rfl ?_
            refine x_dup 84 (ab_dd tk_re_readAtom 40 rfl) rfl rfl ?_
            refine t_getI 87 (ab_dd tk_re_readAtom 41 rfl) rfl F_re_48 (by decide) (Nat.lt_of_lt_of_le (by decide) uD5.1.1) (uD5.1.2.1 22 (by decide)) rfl ?_
            refine x_iconst 88 1 (ab_dd tk_re_readAtom 42 rfl) rfl (by decide) (x_topn 1 rfl ?_)
            refine x_isub 89 (ab_dd tk_re_readAtom 43 rfl) rfl ?_
            refine t_putI 92 (ab_dd tk_re_readAtom 44 rfl) rfl F_re_48 (by decide) (Nat.lt_of_lt_of_le (by decide) uD5.1.1) (uD5.1.2.1 22 (by decide)) rfl rfl rfl ?_
            refine x_goto 122 (ab_dd tk_re_readAtom 45 rfl) (by decide) ?_
            have hsp : pS tp n la (f + 1) 0 deep p = .inl (e5) := by
              show qAt _ _ _ _ _ _ = _
              unfold qAt
              rw [if_neg (show ¬ tK tp n p = 23 by omega), hw]
              show (if _ then _ else _) = _
              rw [if_neg h29]
              rw [if_pos h68, qIf_T]
              rw [if_neg hd4]
              rw [hX5]
              try rfl
            exact x_vret (ab_dd tk_re_readAtom 59 rfl) ⟨rfl, _, rfl, (((qF.rf.tr uF4).tr uF5).ne), by rw [hsp]; exact ⟨(uD5.ne), (uB5.g (gI_k (by decide))).up (by first | omega | (simp only [List.length_append, List.length_cons, List.length_nil]; omega))⟩⟩
          · rw [hX5] at uO5
            obtain ⟨uL5, uC5, uN5, uM5⟩ := uO5
            have uf5 : sI U5 77 = appL N (sI S 77) c5 := uC5.trans (congrArg (fun z => appL N z c5) (uC4.trans rfl))
            refine x_aload_n 83 0 (ab_dd tk_re_readAtom 39 rfl) rfl rfl rfl ?_
            refine x_dup 84 (ab_dd tk_re_readAtom 40 rfl) rfl rfl ?_
            refine t_getI 87 (ab_dd tk_re_readAtom 41 rfl) rfl F_re_48 (by decide) (Nat.lt_of_lt_of_le (by decide) uL5.1.1) (uL5.1.2.1 22 (by decide)) rfl (x_topn (deep + 1) uM5 ?_)
            refine x_iconst 88 1 (ab_dd tk_re_readAtom 42 rfl) rfl (by decide) (x_topn 1 rfl ?_)
            refine x_isub 89 (ab_dd tk_re_readAtom 43 rfl) rfl (x_topn ((deep + 1) - 1) (pk_sub (by omega)) ?_)
            refine t_putI 92 (ab_dd tk_re_readAtom 44 rfl) rfl F_re_48 (by decide) (Nat.lt_of_lt_of_le (by decide) uL5.1.1) (uL5.1.2.1 22 (by decide)) rfl rfl rfl ?_
            refine x_goto 122 (ab_dd tk_re_readAtom 45 rfl) (by decide) ?_
            have hsp : pS tp n la (f + 1) 0 deep p = .inr (q5, c5) := by
              show qAt _ _ _ _ _ _ = _
              unfold qAt
              rw [if_neg (show ¬ tK tp n p = 23 by omega), hw]
              show (if _ then _ else _) = _
              rw [if_neg h29]
              rw [if_pos h68, qIf_T]
              rw [if_neg hd4]
              rw [hX5]
              try rfl
            exact x_vret (ab_dd tk_re_readAtom 59 rfl) ⟨rfl, _, rfl, (((qF.rf.tr uF4).tr uF5).ne), by rw [hsp]; exact ⟨(uL5.ne), ((gI_o (by decide)).trans uf5), ((gI_k (by decide)).trans uN5), (show sI (pI _ 72 10 _) 72 10 = nI deep from gI_s)⟩⟩
    · have hw : pW la (tK tp n p) = none := pW_no (by omega)
      refine x_aload_n 33 0 (ab_dd tk_re_readAtom 15 rfl) rfl rfl rfl ?_
      refine t_callV 36 M_re_enter 6 0 [] (ab_dd tk_re_readAtom 16 rfl) rfl (by first | decide | omega) K_re_enter V_re_enter.1 V_re_enter.2 L_re_171 rfl (Nat.le_of_ble_eq_true rfl) (by decide) (Nat.lt_of_lt_of_le (by decide) hL.1.1) (hL.1.2.1 22 (by decide)) rfl (LA_enter hL deep hdeep h10 (by omega)) (fun v1 w1 h1 => ?_)
      rcases h1 with ⟨hd6, rfl, U6, rfl, uF6, uD6, uB6⟩ | ⟨hd6, rfl, U6, rfl, uF6, uC6, uN6, uM6, uL6⟩
      · skip
        refine x_if_eq_t 122 (ab_dd tk_re_readAtom 17 rfl) (by decide) (by decide) ?_
        have hsp : pS tp n la (f + 1) 0 deep p = .inl ((pE tp n p 4)) := by
          show qAt _ _ _ _ _ _ = _
          unfold qAt
          rw [if_neg (show ¬ tK tp n p = 23 by omega), hw]
          show (if _ then _ else _) = _
          rw [if_pos h29]
          rw [if_pos hd6]
          try rfl
        exact x_vret (ab_dd tk_re_readAtom 59 rfl) ⟨rfl, _, rfl, (qF.rf.tr uF6), by rw [hsp]; exact ⟨uD6, (bL.g (S := _) ⟨_, Nat.le_refl _, (by first | omega | (simp only [List.length_append, List.length_cons, List.length_nil]; omega)), hN⟩ uB6).up (by first | omega | (simp only [List.length_append, List.length_cons, List.length_nil]; omega))⟩⟩
      · have ht6 := tE_g hL.2.2.2.2.2.2.1 (show tK tp n p ≠ 24 by omega)
        refine x_if_eq_f 39 (ab_dd tk_re_readAtom 17 rfl) rfl 122 (by decide) (by decide) ?_
        refine x_aload_n 40 0 (ab_dd tk_re_readAtom 18 rfl) rfl rfl rfl ?_
        refine t_callV 43 M_re_readSum (12 * (6 - (deep + 1)) + 8 + 6) 0 [] (ab_dd tk_re_readAtom 19 rfl) rfl (by omega) K_re_readSum V_re_readSum.1 V_re_readSum.2 L_re_149 rfl (Nat.le_of_ble_eq_true rfl) (by decide) (Nat.lt_of_lt_of_le (by decide) uL6.1.1) (uL6.1.2.1 22 (by decide)) rfl (hS _ N (deep + 1) (tE tp n p) uL6 (by exact ((qF.rf.tr uF6).2 9 (by omega)).trans h9) (uN6.trans hN) uM6 (by first | omega | (simp only [List.length_append, List.length_cons, List.length_nil]; omega)) (by omega) (by omega)) (fun v1 w1 h1 => ?_)
        obtain ⟨rfl, U7, rfl, uF7, uO7⟩ := h1
        rcases hX7 : pS tp n la f 2 (deep + 1) (tE tp n p) with e7 | ⟨q7, c7⟩
        · rw [hX7] at uO7
          obtain ⟨uD7, uB7⟩ := uO7
          refine x_aload_n 44 0 (ab_dd tk_re_readAtom 20 rfl) rfl rfl rfl ?_
          refine x_bipush 46 41 (ab_dd tk_re_readAtom 21 rfl) rfl (by decide) (x_topn 41 rfl ?_)
          refine t_callV 49 M_re_needSign 6 1 [_] (ab_dd tk_re_readAtom 22 rfl) rfl (by first | decide | omega) K_re_needSign V_re_needSign.1 V_re_needSign.2 L_re_81 rfl (Nat.le_of_ble_eq_true rfl) (by decide) (Nat.lt_of_lt_of_le (by decide) uD7.1.1) (uD7.1.2.1 22 (by decide)) rfl (DA_needSign uD7 _) (fun v1 w1 h1 => ?_)
          obtain ⟨rfl, U8, rfl, uG8, uD8⟩ := h1
          refine x_aload_n 50 0 (ab_dd tk_re_readAtom 23 rfl) rfl rfl rfl ?_
          refine x_dup 51 (ab_dd tk_re_readAtom 24 rfl) rfl rfl ?_
          refine t_getI 54 (ab_dd tk_re_readAtom 25 rfl) rfl F_re_48 (by decide) (Nat.lt_of_lt_of_le (by decide) uD8.1.1) (uD8.1.2.1 22 (by decide)) rfl ?_
          refine x_iconst 55 1 (ab_dd tk_re_readAtom 26 rfl) rfl (by decide) (x_topn 1 rfl ?_)
          refine x_isub 56 (ab_dd tk_re_readAtom 27 rfl) rfl ?_
          refine t_putI 59 (ab_dd tk_re_readAtom 28 rfl) rfl F_re_48 (by decide) (Nat.lt_of_lt_of_le (by decide) uD8.1.1) (uD8.1.2.1 22 (by decide)) rfl rfl rfl ?_
          refine x_goto 122 (ab_dd tk_re_readAtom 29 rfl) (by decide) ?_
          have hsp : pS tp n la (f + 1) 0 deep p = .inl (e7) := by
            show qAt _ _ _ _ _ _ = _
            unfold qAt
            rw [if_neg (show ¬ tK tp n p = 23 by omega), hw]
            show (if _ then _ else _) = _
            rw [if_pos h29]
            rw [if_neg hd6]
            rw [hX7]
            try rfl
          exact x_vret (ab_dd tk_re_readAtom 59 rfl) ⟨rfl, _, rfl, ((((qF.rf.tr uF6).tr uF7).tr uG8.F).ne), by rw [hsp]; exact ⟨(uD8.ne), ((uB7.g (uG8.2 12 (by omega))).g (gI_k (by decide))).up (by first | omega | (simp only [List.length_append, List.length_cons, List.length_nil]; omega))⟩⟩
        · rw [hX7] at uO7
          obtain ⟨uL7, uC7, uN7, uM7⟩ := uO7
          have hg7 := pS_len _ _ _ _ _ _ uL6.2.2.2.2.2.2.1 hX7
          obtain ⟨hga7, hgb7, hgc7, hgd7⟩ := hg7
          have hge7 := hgd7 (by decide)
          have uf7 : sI U7 77 = appL N (sI S 77) c7 := uC7.trans (congrArg (fun z => appL N z c7) (uC6.trans rfl))
          have un7 : sI U7 72 12 = nI (N + c7.length) := uN7.trans (congrArg nI (by simp only [List.length_append, List.length_cons, List.length_nil] <;> omega))
          have uL7 : qLv U7 tp n q7 := uL7
          refine x_aload_n 44 0 (ab_dd tk_re_readAtom 20 rfl) rfl rfl rfl ?_
          refine x_bipush 46 41 (ab_dd tk_re_readAtom 21 rfl) rfl (by decide) (x_topn 41 rfl ?_)
          refine t_callV 49 M_re_needSign 6 1 [_] (ab_dd tk_re_readAtom 22 rfl) rfl (by first | decide | omega) K_re_needSign V_re_needSign.1 V_re_needSign.2 L_re_81 rfl (Nat.le_of_ble_eq_true rfl) (by decide) (Nat.lt_of_lt_of_le (by decide) uL7.1.1) (uL7.1.2.1 22 (by decide)) rfl (LA_nsg uL7 6 41 (by decide) (by decide)) (fun v1 w1 h1 => ?_)
          obtain ⟨rfl, U9, rfl, uG9, uO9⟩ := h1
          rcases uO9 with ⟨hk9, uL9⟩ | ⟨hk9, uD9⟩
          · have ht9 := tE_g uL7.2.2.2.2.2.2.1 (show tK tp n q7 ≠ 24 by omega)
            refine x_aload_n 50 0 (ab_dd tk_re_readAtom 23 rfl) rfl rfl rfl ?_
            refine x_dup 51 (ab_dd tk_re_readAtom 24 rfl) rfl rfl ?_
            refine t_getI 54 (ab_dd tk_re_readAtom 25 rfl) rfl F_re_48 (by decide) (Nat.lt_of_lt_of_le (by decide) uL9.1.1) (uL9.1.2.1 22 (by decide)) rfl (x_topn (deep + 1) ((uG9.2 10 (by omega)).trans uM7) ?_)
            refine x_iconst 55 1 (ab_dd tk_re_readAtom 26 rfl) rfl (by decide) (x_topn 1 rfl ?_)
            refine x_isub 56 (ab_dd tk_re_readAtom 27 rfl) rfl (x_topn ((deep + 1) - 1) (pk_sub (by omega)) ?_)
            refine t_putI 59 (ab_dd tk_re_readAtom 28 rfl) rfl F_re_48 (by decide) (Nat.lt_of_lt_of_le (by decide) uL9.1.1) (uL9.1.2.1 22 (by decide)) rfl rfl rfl ?_
            refine x_goto 122 (ab_dd tk_re_readAtom 29 rfl) (by decide) ?_
            have hsp : pS tp n la (f + 1) 0 deep p = .inr ((tE tp n q7), c7) := by
              show qAt _ _ _ _ _ _ = _
              unfold qAt
              rw [if_neg (show ¬ tK tp n p = 23 by omega), hw]
              show (if _ then _ else _) = _
              rw [if_pos h29]
              rw [if_neg hd6]
              rw [hX7, pB_r]
              try dsimp only
              try unfold qX
              rw [if_pos hk9]
              try dsimp only
              try rfl
            exact x_vret (ab_dd tk_re_readAtom 59 rfl) ⟨rfl, _, rfl, ((((qF.rf.tr uF6).tr uF7).tr uG9.F).ne), by rw [hsp]; exact ⟨(uL9.ne), ((gI_o (by decide)).trans (uG9.la.trans uf7)), ((gI_k (by decide)).trans ((uG9.2 12 (by omega)).trans un7)), (show sI (pI _ 72 10 _) 72 10 = nI deep from gI_s)⟩⟩
          · skip
            refine x_aload_n 50 0 (ab_dd tk_re_readAtom 23 rfl) rfl rfl rfl ?_
            refine x_dup 51 (ab_dd tk_re_readAtom 24 rfl) rfl rfl ?_
            refine t_getI 54 (ab_dd tk_re_readAtom 25 rfl) rfl F_re_48 (by decide) (Nat.lt_of_lt_of_le (by decide) uD9.1.1) (uD9.1.2.1 22 (by decide)) rfl ?_
            refine x_iconst 55 1 (ab_dd tk_re_readAtom 26 rfl) rfl (by decide) (x_topn 1 rfl ?_)
            refine x_isub 56 (ab_dd tk_re_readAtom 27 rfl) rfl ?_
            refine t_putI 59 (ab_dd tk_re_readAtom 28 rfl) rfl F_re_48 (by decide) (Nat.lt_of_lt_of_le (by decide) uD9.1.1) (uD9.1.2.1 22 (by decide)) rfl rfl rfl ?_
            refine x_goto 122 (ab_dd tk_re_readAtom 29 rfl) (by decide) ?_
            have hsp : pS tp n la (f + 1) 0 deep p = .inl ((pE tp n q7 2)) := by
              show qAt _ _ _ _ _ _ = _
              unfold qAt
              rw [if_neg (show ¬ tK tp n p = 23 by omega), hw]
              show (if _ then _ else _) = _
              rw [if_pos h29]
              rw [if_neg hd6]
              rw [hX7, pB_r]
              try dsimp only
              try unfold qX
              rw [if_neg hk9]
              try rfl
            exact x_vret (ab_dd tk_re_readAtom 59 rfl) ⟨rfl, _, rfl, ((((qF.rf.tr uF6).tr uF7).tr uG9.F).ne), by rw [hsp]; exact ⟨(uD9.ne), ((bL.g (S := _) ⟨_, Nat.le_refl _, (by first | omega | (simp only [List.length_append, List.length_cons, List.length_nil]; omega)), un7⟩ (uG9.2 12 (by omega))).g (gI_k (by decide))).up (by first | omega | (simp only [List.length_append, List.length_cons, List.length_nil]; omega))⟩⟩
  · have h23 : tK tp n p = 23 := by omega
    have hg := tE_g (tp := tp) hp (show tK tp n p ≠ 24 by omega)
    have hr43 := hr42 h23
    refine x_aload_n 9 0 (ab_dd tk_re_readAtom 4 rfl) rfl rfl rfl ?_
    refine x_aload_n 10 0 (ab_dd tk_re_readAtom 5 rfl) rfl rfl rfl ?_
    refine t_getI 13 (ab_dd tk_re_readAtom 6 rfl) rfl F_re_28 (by decide) (Nat.lt_of_lt_of_le (by decide) hL.1.1) (hL.1.2.1 22 (by decide)) rfl (x_topn (tN tp n p) (hL.2.2.2.2.2.2.2.1.2.2.2.1 (by omega)) ?_)
    refine t_callV 16 M_re_put 0 1 [_] (ab_dd tk_re_readAtom 7 rfl) rfl (by first | decide | omega) K_re_put V_re_put.1 V_re_put.2 L_re_165 rfl (Nat.le_of_ble_eq_true rfl) (by decide) (Nat.lt_of_lt_of_le (by decide) hL.1.1) (hL.1.2.1 22 (by decide)) rfl (LA_put hL hN (by first | omega | (simp only [List.length_append, List.length_cons, List.length_nil]; omega)) (tN tp n p) _ (cvt_n (by omega))) (fun v1 w1 h1 => ?_)
    obtain ⟨rfl, U10, rfl, uF10, uL10, uC10, uN10, uM10⟩ := h1
    have uf10 : sI U10 77 = appL N (sI S 77) [(tN tp n p)] := uC10.trans (congrArg (fun z => appL N z [(tN tp n p)]) rfl)
    have un10 : sI U10 72 12 = nI (N + ([(tN tp n p)]).length) := uN10.trans (congrArg nI (by simp only [List.length_append, List.length_cons, List.length_nil] <;> omega))
    refine x_aload_n 17 0 (ab_dd tk_re_readAtom 8 rfl) rfl rfl rfl ?_
    refine t_callV 20 M_re_advance 5 0 [] (ab_dd tk_re_readAtom 9 rfl) rfl (by first | decide | omega) K_re_advance V_re_advance.1 V_re_advance.2 L_re_64 rfl (Nat.le_of_ble_eq_true rfl) (by decide) (Nat.lt_of_lt_of_le (by decide) uL10.1.1) (uL10.1.2.1 22 (by decide)) rfl (LA_adv uL10 (by omega)) (fun v1 w1 h1 => ?_)
    obtain ⟨rfl, U11, rfl, uG11, uL11⟩ := h1
    have ht11 := tE_g uL10.2.2.2.2.2.2.1 (show tK tp n p ≠ 24 by omega)
    refine x_goto 122 (ab_dd tk_re_readAtom 10 rfl) (by decide) ?_
    have hsp : pS tp n la (f + 1) 0 deep p = .inr ((tE tp n p), [(tN tp n p)]) := by
      show qAt _ _ _ _ _ _ = _
      unfold qAt
      rw [if_pos (show tK tp n p = 23 by omega)]
      try rfl
    exact x_vret (ab_dd tk_re_readAtom 59 rfl) ⟨rfl, _, rfl, ((qF.rf.tr uF10).tr uG11.F), by rw [hsp]; exact ⟨uL11, (uG11.la.trans uf10), ((uG11.2 12 (by omega)).trans un10), ((uG11.2 10 (by omega)).trans (uM10.trans h10))⟩⟩
theorem k_readComparison {G : ab_G} {tp : Nat → Nat} {n la f : Nat} (hla : la < 2) (hS : KM G tp n la M_re_readSum 2 3 f) : ∀ (S : ab_S) (N deep p : Nat), qLv S tp n p → sI S 72 9 = nI la → sI S 72 12 = nI N → sI S 72 10 = nI deep → N ≤ p → deep ≤ 6 → 8 * (n - p) + 3 < f → ab_C G (12 * (6 - deep) + 15) M_re_readComparison [.ref 72] (sw S) (qOut S tp n N deep p (qCm tp n (pS tp n la f) deep p)) := by
  intro S N deep p hL h9 hN h10 hNp hdeep hfu
  have hp := hL.2.2.2.2.2.2.1
  have hn9 := hL.2.2.2.1
  have hk42 := tK_lt tp n p
  have hr42 := tN_lt (tp := tp) hp
  have hgap := tK_gap tp n p
  obtain ⟨ck0, ck1, ck2, ck3, ck4⟩ := ckd_i (tK tp n p) hgap
  have ckl := ckd_lt (tK tp n p)
  refine x_enter [some (.ref 72), none] (by decide) (Nat.le_of_ble_eq_true rfl) rfl (fun v w' h => by obtain ⟨rfl, -⟩ := h; trivial) ?_
  refine x_aload_n 1 0 (ab_dd tk_re_readComparison 0 rfl) rfl rfl rfl ?_
  refine t_callV 4 M_re_readSum (12 * (6 - deep) + 8 + 6) 0 [] (ab_dd tk_re_readComparison 1 rfl) rfl (by omega) K_re_readSum V_re_readSum.1 V_re_readSum.2 L_re_149 rfl (Nat.le_of_ble_eq_true rfl) (by decide) (Nat.lt_of_lt_of_le (by decide) hL.1.1) (hL.1.2.1 22 (by decide)) rfl (hS _ N deep p hL (by exact (qF.rf.2 9 (by omega)).trans h9) hN h10 (by first | omega | (simp only [List.length_append, List.length_cons, List.length_nil]; omega)) (by omega) (by omega)) (fun v1 w1 h1 => ?_)
  obtain ⟨rfl, U1, rfl, uF1, uO1⟩ := h1
  rcases hX1 : pS tp n la f 2 deep p with e1 | ⟨q1, c1⟩
  · rw [hX1] at uO1
    obtain ⟨uD1, uB1⟩ := uO1
    refine x_bipush 6 (-13) (ab_dd tk_re_readComparison 2 rfl) rfl (by decide) ?_
    refine x_istore_n 7 [some (.ref 72), some (.int ((-13)))] 1 (ab_dd tk_re_readComparison 3 rfl) rfl rfl (by decide) rfl ?_
    refine x_aload_n 8 0 (ab_dd tk_re_readComparison 4 rfl) rfl rfl rfl ?_
    refine x_bipush 10 60 (ab_dd tk_re_readComparison 5 rfl) rfl (by decide) (x_topn 60 rfl ?_)
    refine t_callV 13 M_re_isSign 0 1 [_] (ab_dd tk_re_readComparison 6 rfl) rfl (by first | decide | omega) K_re_isSign V_re_isSign.1 V_re_isSign.2 L_re_161 rfl (Nat.le_of_ble_eq_true rfl) (by decide) (Nat.lt_of_lt_of_le (by decide) uD1.1.1) (uD1.1.2.1 22 (by decide)) rfl (DA_isSign uD1 _) (fun v1 w1 h1 => ?_)
    obtain ⟨rfl, rfl⟩ := h1
    refine x_if_eq_t 22 (ab_dd tk_re_readComparison 7 rfl) (by decide) (by decide) ?_
    refine x_aload_n 23 0 (ab_dd tk_re_readComparison 11 rfl) rfl rfl rfl ?_
    refine x_bipush 25 62 (ab_dd tk_re_readComparison 12 rfl) rfl (by decide) (x_topn 62 rfl ?_)
    refine t_callV 28 M_re_isSign 0 1 [_] (ab_dd tk_re_readComparison 13 rfl) rfl (by first | decide | omega) K_re_isSign V_re_isSign.1 V_re_isSign.2 L_re_161 rfl (Nat.le_of_ble_eq_true rfl) (by decide) (Nat.lt_of_lt_of_le (by decide) uD1.1.1) (uD1.1.2.1 22 (by decide)) rfl (DA_isSign uD1 _) (fun v1 w1 h1 => ?_)
    obtain ⟨rfl, rfl⟩ := h1
    refine x_if_eq_t 37 (ab_dd tk_re_readComparison 14 rfl) (by decide) (by decide) ?_
    refine x_aload_n 38 0 (ab_dd tk_re_readComparison 18 rfl) rfl rfl rfl ?_
    refine x_bipush 40 61 (ab_dd tk_re_readComparison 19 rfl) rfl (by decide) (x_topn 61 rfl ?_)
    refine t_callV 43 M_re_isSign 0 1 [_] (ab_dd tk_re_readComparison 20 rfl) rfl (by first | decide | omega) K_re_isSign V_re_isSign.1 V_re_isSign.2 L_re_161 rfl (Nat.le_of_ble_eq_true rfl) (by decide) (Nat.lt_of_lt_of_le (by decide) uD1.1.1) (uD1.1.2.1 22 (by decide)) rfl (DA_isSign uD1 _) (fun v1 w1 h1 => ?_)
    obtain ⟨rfl, rfl⟩ := h1
    refine x_if_ne_f 46 (ab_dd tk_re_readComparison 21 rfl) rfl 52 (by decide) (by decide) ?_
    refine x_aload_n 47 0 (ab_dd tk_re_readComparison 22 rfl) rfl rfl rfl ?_
    refine x_iconst 48 2 (ab_dd tk_re_readComparison 23 rfl) rfl (by decide) (x_topn 2 rfl ?_)
    refine t_callV 51 M_re_refuse 0 1 [_] (ab_dd tk_re_readComparison 24 rfl) rfl (by first | decide | omega) K_re_refuse V_re_refuse.1 V_re_refuse.2 L_re_114 rfl (Nat.le_of_ble_eq_true rfl) (by decide) (Nat.lt_of_lt_of_le (by decide) uD1.1.1) (uD1.1.2.1 22 (by decide)) rfl (DA_refuse uD1 _) (fun v1 w1 h1 => ?_)
    obtain ⟨rfl, U2, rfl, uG2, uD2⟩ := h1
    have hsp : qCm tp n (pS tp n la f) deep p = .inl (e1) := by
      unfold qCm
      rw [hX1]
      try rfl
    exact x_vret (ab_dd tk_re_readComparison 25 rfl) ⟨rfl, _, rfl, ((qF.rf.tr uF1).tr uG2.F), by rw [hsp]; exact ⟨uD2, (uB1.g (uG2.2 12 (by omega))).up (by first | omega | (simp only [List.length_append, List.length_cons, List.length_nil]; omega))⟩⟩
  · rw [hX1] at uO1
    obtain ⟨uL1, uC1, uN1, uM1⟩ := uO1
    have hg1 := pS_len _ _ _ _ _ _ hL.2.2.2.2.2.2.1 hX1
    obtain ⟨hga1, hgb1, hgc1, hgd1⟩ := hg1
    have hge1 := hgd1 (by decide)
    have uf1 : sI U1 77 = appL N (sI S 77) c1 := uC1.trans (congrArg (fun z => appL N z c1) rfl)
    have un1 : sI U1 72 12 = nI (N + c1.length) := uN1.trans (congrArg nI (by simp only [List.length_append, List.length_cons, List.length_nil] <;> omega))
    have uL1 : qLv U1 tp n q1 := uL1
    refine x_bipush 6 (-13) (ab_dd tk_re_readComparison 2 rfl) rfl (by decide) ?_
    refine x_istore_n 7 [some (.ref 72), some (.int ((-13)))] 1 (ab_dd tk_re_readComparison 3 rfl) rfl rfl (by decide) rfl ?_
    have hqg := tK_gap tp n q1
    have hq42 := tK_lt tp n q1
    refine x_aload_n 8 0 (ab_dd tk_re_readComparison 4 rfl) rfl rfl rfl ?_
    refine x_bipush 10 60 (ab_dd tk_re_readComparison 5 rfl) rfl (by decide) (x_topn 60 rfl ?_)
    refine t_callV 13 M_re_isSign 0 1 [_] (ab_dd tk_re_readComparison 6 rfl) rfl (by first | decide | omega) K_re_isSign V_re_isSign.1 V_re_isSign.2 L_re_161 rfl (Nat.le_of_ble_eq_true rfl) (by decide) (Nat.lt_of_lt_of_le (by decide) uL1.1.1) (uL1.1.2.1 22 (by decide)) rfl (LA_sg uL1 10 60 (by decide) (by decide)) (fun v1 w1 h1 => ?_)
    obtain ⟨rfl, rfl⟩ := h1
    refine xb_if_eq 16 22 (ab_dd tk_re_readComparison 7 rfl) rfl (by decide) (fun h13 => ?_) (fun h13 => ?_)
    · refine x_aload_n 23 0 (ab_dd tk_re_readComparison 11 rfl) rfl rfl rfl ?_
      refine x_bipush 25 62 (ab_dd tk_re_readComparison 12 rfl) rfl (by decide) (x_topn 62 rfl ?_)
      refine t_callV 28 M_re_isSign 0 1 [_] (ab_dd tk_re_readComparison 13 rfl) rfl (by first | decide | omega) K_re_isSign V_re_isSign.1 V_re_isSign.2 L_re_161 rfl (Nat.le_of_ble_eq_true rfl) (by decide) (Nat.lt_of_lt_of_le (by decide) uL1.1.1) (uL1.1.2.1 22 (by decide)) rfl (LA_sg uL1 11 62 (by decide) (by decide)) (fun v1 w1 h1 => ?_)
      obtain ⟨rfl, rfl⟩ := h1
      refine xb_if_eq 31 37 (ab_dd tk_re_readComparison 14 rfl) rfl (by decide) (fun h28 => ?_) (fun h28 => ?_)
      · refine x_aload_n 38 0 (ab_dd tk_re_readComparison 18 rfl) rfl rfl rfl ?_
        refine x_bipush 40 61 (ab_dd tk_re_readComparison 19 rfl) rfl (by decide) (x_topn 61 rfl ?_)
        refine t_callV 43 M_re_isSign 0 1 [_] (ab_dd tk_re_readComparison 20 rfl) rfl (by first | decide | omega) K_re_isSign V_re_isSign.1 V_re_isSign.2 L_re_161 rfl (Nat.le_of_ble_eq_true rfl) (by decide) (Nat.lt_of_lt_of_le (by decide) uL1.1.1) (uL1.1.2.1 22 (by decide)) rfl (LA_sg uL1 9 61 (by decide) (by decide)) (fun v1 w1 h1 => ?_)
        obtain ⟨rfl, rfl⟩ := h1
        refine xb_if_ne 46 52 (ab_dd tk_re_readComparison 21 rfl) rfl (by decide) (fun h43 => ?_) (fun h43 => ?_)
        · refine x_aload_n 53 0 (ab_dd tk_re_readComparison 26 rfl) rfl rfl rfl ?_
          refine t_callV 56 M_re_advance 5 0 [] (ab_dd tk_re_readComparison 27 rfl) rfl (by first | decide | omega) K_re_advance V_re_advance.1 V_re_advance.2 L_re_64 rfl (Nat.le_of_ble_eq_true rfl) (by decide) (Nat.lt_of_lt_of_le (by decide) uL1.1.1) (uL1.1.2.1 22 (by decide)) rfl (LA_adv uL1 (by omega)) (fun v1 w1 h1 => ?_)
          obtain ⟨rfl, U3, rfl, uG3, uL3⟩ := h1
          have ht3 := tE_g uL1.2.2.2.2.2.2.1 (show tK tp n q1 ≠ 24 by omega)
          refine x_aload_n 57 0 (ab_dd tk_re_readComparison 28 rfl) rfl rfl rfl ?_
          refine t_callV 60 M_re_readSum (12 * (6 - deep) + 8 + 6) 0 [] (ab_dd tk_re_readComparison 29 rfl) rfl (by omega) K_re_readSum V_re_readSum.1 V_re_readSum.2 L_re_149 rfl (Nat.le_of_ble_eq_true rfl) (by decide) (Nat.lt_of_lt_of_le (by decide) uL3.1.1) (uL3.1.2.1 22 (by decide)) rfl (hS _ (N + c1.length) deep (tE tp n q1) uL3 (by exact (((qF.rf.tr uF1).tr uG3.F).2 9 (by omega)).trans h9) ((uG3.2 12 (by omega)).trans un1) ((uG3.2 10 (by omega)).trans uM1) (by first | omega | (simp only [List.length_append, List.length_cons, List.length_nil]; omega)) (by omega) (by omega)) (fun v1 w1 h1 => ?_)
          obtain ⟨rfl, U4, rfl, uF4, uO4⟩ := h1
          rcases hX4 : pS tp n la f 2 deep (tE tp n q1) with e4 | ⟨q4, c4⟩
          · rw [hX4] at uO4
            obtain ⟨uD4, uB4⟩ := uO4
            refine x_aload_n 61 0 (ab_dd tk_re_readComparison 30 rfl) rfl rfl rfl ?_
            refine x_iload_n 62 1 (ab_dd tk_re_readComparison 31 rfl) rfl rfl rfl ?_
            refine t_callV 65 M_re_put 0 1 [_] (ab_dd tk_re_readComparison 32 rfl) rfl (by first | decide | omega) K_re_put V_re_put.1 V_re_put.2 L_re_165 rfl (Nat.le_of_ble_eq_true rfl) (by decide) (Nat.lt_of_lt_of_le (by decide) uD4.1.1) (uD4.1.2.1 22 (by decide)) rfl (DA_put uD4 _) (fun v1 w1 h1 => ?_)
            obtain ⟨rfl, U5, rfl, uF5, uD5, uB5⟩ := h1
            have hsp : qCm tp n (pS tp n la f) deep p = .inl (e4) := by
              unfold qCm
              rw [hX1, pB_r]
              try dsimp only
              rw [if_pos (show 39 ≤ tK tp n q1 ∧ tK tp n q1 ≤ 41 by omega), hX4]
              try rfl
            exact x_vret (ab_dd tk_re_readComparison 33 rfl) ⟨rfl, _, rfl, ((((qF.rf.tr uF1).tr uG3.F).tr uF4).tr uF5), by rw [hsp]; exact ⟨uD5, (uB5 _ uB4).up (by first | omega | (simp only [List.length_append, List.length_cons, List.length_nil]; omega))⟩⟩
          · rw [hX4] at uO4
            obtain ⟨uL4, uC4, uN4, uM4⟩ := uO4
            have hg4 := pS_len _ _ _ _ _ _ uL3.2.2.2.2.2.2.1 hX4
            obtain ⟨hga4, hgb4, hgc4, hgd4⟩ := hg4
            have hge4 := hgd4 (by decide)
            have uf4 : sI U4 77 = appL N (sI S 77) (c1 ++ c4) := by rw [uC4, (uG3.la.trans uf1), appL_app]
            have un4 : sI U4 72 12 = nI (N + (c1 ++ c4).length) := uN4.trans (congrArg nI (by simp only [List.length_append, List.length_cons, List.length_nil] <;> omega))
            have uL4 : qLv U4 tp n q4 := uL4
            refine x_aload_n 61 0 (ab_dd tk_re_readComparison 30 rfl) rfl rfl rfl ?_
            refine x_iload_n 62 1 (ab_dd tk_re_readComparison 31 rfl) rfl rfl rfl ?_
            refine t_callV 65 M_re_put 0 1 [_] (ab_dd tk_re_readComparison 32 rfl) rfl (by first | decide | omega) K_re_put V_re_put.1 V_re_put.2 L_re_165 rfl (Nat.le_of_ble_eq_true rfl) (by decide) (Nat.lt_of_lt_of_le (by decide) uL4.1.1) (uL4.1.2.1 22 (by decide)) rfl (LA_put uL4 un4 (by first | omega | (simp only [List.length_append, List.length_cons, List.length_nil]; omega)) 3003 _ (by decide)) (fun v1 w1 h1 => ?_)
            obtain ⟨rfl, U6, rfl, uF6, uL6, uC6, uN6, uM6⟩ := h1
            have uf6 : sI U6 77 = appL N (sI S 77) ((c1 ++ c4) ++ [3003]) := by rw [uC6, uf4, appL_app]
            have un6 : sI U6 72 12 = nI (N + ((c1 ++ c4) ++ [3003]).length) := uN6.trans (congrArg nI (by simp only [List.length_append, List.length_cons, List.length_nil] <;> omega))
            have hsp : qCm tp n (pS tp n la f) deep p = .inr (q4, ((c1 ++ c4) ++ [3003])) := by
              unfold qCm
              rw [hX1, pB_r]
              try dsimp only
              rw [if_pos (show 39 ≤ tK tp n q1 ∧ tK tp n q1 ≤ 41 by omega), hX4]
              show Sum.inr _ = _
              rw [show 2964 + tK tp n q1 = 3003 by omega]
              try rfl
            exact x_vret (ab_dd tk_re_readComparison 33 rfl) ⟨rfl, _, rfl, ((((qF.rf.tr uF1).tr uG3.F).tr uF4).tr uF6), by rw [hsp]; exact ⟨uL6, uf6, un6, (uM6.trans uM4)⟩⟩
        · refine x_aload_n 47 0 (ab_dd tk_re_readComparison 22 rfl) rfl rfl rfl ?_
          refine x_iconst 48 2 (ab_dd tk_re_readComparison 23 rfl) rfl (by decide) (x_topn 2 rfl ?_)
          refine t_callV 51 M_re_refuse 0 1 [_] (ab_dd tk_re_readComparison 24 rfl) rfl (by first | decide | omega) K_re_refuse V_re_refuse.1 V_re_refuse.2 L_re_114 rfl (Nat.le_of_ble_eq_true rfl) (by decide) (Nat.lt_of_lt_of_le (by decide) uL1.1.1) (uL1.1.2.1 22 (by decide)) rfl (LA_refuse uL1 2 (by decide) (by decide)) (fun v1 w1 h1 => ?_)
          obtain ⟨rfl, U7, rfl, uG7, uD7⟩ := h1
          have hsp : qCm tp n (pS tp n la f) deep p = .inl ((pE tp n q1 2)) := by
            unfold qCm
            rw [hX1, pB_r]
            try dsimp only
            rw [if_neg (by omega)]
            try rfl
          exact x_vret (ab_dd tk_re_readComparison 25 rfl) ⟨rfl, _, rfl, ((qF.rf.tr uF1).tr uG7.F), by rw [hsp]; exact ⟨uD7, (bL.g (S := _) ⟨_, Nat.le_refl _, (by first | omega | (simp only [List.length_append, List.length_cons, List.length_nil]; omega)), un1⟩ (uG7.2 12 (by omega))).up (by first | omega | (simp only [List.length_append, List.length_cons, List.length_nil]; omega))⟩⟩
      · refine x_bipush 33 (-15) (ab_dd tk_re_readComparison 15 rfl) rfl (by decide) ?_
        refine x_istore_n 34 [some (.ref 72), some (.int ((-15)))] 1 (ab_dd tk_re_readComparison 16 rfl) rfl rfl (by decide) rfl ?_
        refine x_goto 52 (ab_dd tk_re_readComparison 17 rfl) (by decide) ?_
        refine x_aload_n 53 0 (ab_dd tk_re_readComparison 26 rfl) rfl rfl rfl ?_
        refine t_callV 56 M_re_advance 5 0 [] (ab_dd tk_re_readComparison 27 rfl) rfl (by first | decide | omega) K_re_advance V_re_advance.1 V_re_advance.2 L_re_64 rfl (Nat.le_of_ble_eq_true rfl) (by decide) (Nat.lt_of_lt_of_le (by decide) uL1.1.1) (uL1.1.2.1 22 (by decide)) rfl (LA_adv uL1 (by omega)) (fun v1 w1 h1 => ?_)
        obtain ⟨rfl, U8, rfl, uG8, uL8⟩ := h1
        have ht8 := tE_g uL1.2.2.2.2.2.2.1 (show tK tp n q1 ≠ 24 by omega)
        refine x_aload_n 57 0 (ab_dd tk_re_readComparison 28 rfl) rfl rfl rfl ?_
        refine t_callV 60 M_re_readSum (12 * (6 - deep) + 8 + 6) 0 [] (ab_dd tk_re_readComparison 29 rfl) rfl (by omega) K_re_readSum V_re_readSum.1 V_re_readSum.2 L_re_149 rfl (Nat.le_of_ble_eq_true rfl) (by decide) (Nat.lt_of_lt_of_le (by decide) uL8.1.1) (uL8.1.2.1 22 (by decide)) rfl (hS _ (N + c1.length) deep (tE tp n q1) uL8 (by exact (((qF.rf.tr uF1).tr uG8.F).2 9 (by omega)).trans h9) ((uG8.2 12 (by omega)).trans un1) ((uG8.2 10 (by omega)).trans uM1) (by first | omega | (simp only [List.length_append, List.length_cons, List.length_nil]; omega)) (by omega) (by omega)) (fun v1 w1 h1 => ?_)
        obtain ⟨rfl, U9, rfl, uF9, uO9⟩ := h1
        rcases hX9 : pS tp n la f 2 deep (tE tp n q1) with e9 | ⟨q9, c9⟩
        · rw [hX9] at uO9
          obtain ⟨uD9, uB9⟩ := uO9
          refine x_aload_n 61 0 (ab_dd tk_re_readComparison 30 rfl) rfl rfl rfl ?_
          refine x_iload_n 62 1 (ab_dd tk_re_readComparison 31 rfl) rfl rfl rfl ?_
          refine t_callV 65 M_re_put 0 1 [_] (ab_dd tk_re_readComparison 32 rfl) rfl (by first | decide | omega) K_re_put V_re_put.1 V_re_put.2 L_re_165 rfl (Nat.le_of_ble_eq_true rfl) (by decide) (Nat.lt_of_lt_of_le (by decide) uD9.1.1) (uD9.1.2.1 22 (by decide)) rfl (DA_put uD9 _) (fun v1 w1 h1 => ?_)
          obtain ⟨rfl, U10, rfl, uF10, uD10, uB10⟩ := h1
          have hsp : qCm tp n (pS tp n la f) deep p = .inl (e9) := by
            unfold qCm
            rw [hX1, pB_r]
            try dsimp only
            rw [if_pos (show 39 ≤ tK tp n q1 ∧ tK tp n q1 ≤ 41 by omega), hX9]
            try rfl
          exact x_vret (ab_dd tk_re_readComparison 33 rfl) ⟨rfl, _, rfl, ((((qF.rf.tr uF1).tr uG8.F).tr uF9).tr uF10), by rw [hsp]; exact ⟨uD10, (uB10 _ uB9).up (by first | omega | (simp only [List.length_append, List.length_cons, List.length_nil]; omega))⟩⟩
        · rw [hX9] at uO9
          obtain ⟨uL9, uC9, uN9, uM9⟩ := uO9
          have hg9 := pS_len _ _ _ _ _ _ uL8.2.2.2.2.2.2.1 hX9
          obtain ⟨hga9, hgb9, hgc9, hgd9⟩ := hg9
          have hge9 := hgd9 (by decide)
          have uf9 : sI U9 77 = appL N (sI S 77) (c1 ++ c9) := by rw [uC9, (uG8.la.trans uf1), appL_app]
          have un9 : sI U9 72 12 = nI (N + (c1 ++ c9).length) := uN9.trans (congrArg nI (by simp only [List.length_append, List.length_cons, List.length_nil] <;> omega))
          have uL9 : qLv U9 tp n q9 := uL9
          refine x_aload_n 61 0 (ab_dd tk_re_readComparison 30 rfl) rfl rfl rfl ?_
          refine x_iload_n 62 1 (ab_dd tk_re_readComparison 31 rfl) rfl rfl rfl ?_
          refine t_callV 65 M_re_put 0 1 [_] (ab_dd tk_re_readComparison 32 rfl) rfl (by first | decide | omega) K_re_put V_re_put.1 V_re_put.2 L_re_165 rfl (Nat.le_of_ble_eq_true rfl) (by decide) (Nat.lt_of_lt_of_le (by decide) uL9.1.1) (uL9.1.2.1 22 (by decide)) rfl (LA_put uL9 un9 (by first | omega | (simp only [List.length_append, List.length_cons, List.length_nil]; omega)) 3005 _ (by decide)) (fun v1 w1 h1 => ?_)
          obtain ⟨rfl, U11, rfl, uF11, uL11, uC11, uN11, uM11⟩ := h1
          have uf11 : sI U11 77 = appL N (sI S 77) ((c1 ++ c9) ++ [3005]) := by rw [uC11, uf9, appL_app]
          have un11 : sI U11 72 12 = nI (N + ((c1 ++ c9) ++ [3005]).length) := uN11.trans (congrArg nI (by simp only [List.length_append, List.length_cons, List.length_nil] <;> omega))
          have hsp : qCm tp n (pS tp n la f) deep p = .inr (q9, ((c1 ++ c9) ++ [3005])) := by
            unfold qCm
            rw [hX1, pB_r]
            try dsimp only
            rw [if_pos (show 39 ≤ tK tp n q1 ∧ tK tp n q1 ≤ 41 by omega), hX9]
            show Sum.inr _ = _
            rw [show 2964 + tK tp n q1 = 3005 by omega]
            try rfl
          exact x_vret (ab_dd tk_re_readComparison 33 rfl) ⟨rfl, _, rfl, ((((qF.rf.tr uF1).tr uG8.F).tr uF9).tr uF11), by rw [hsp]; exact ⟨uL11, uf11, un11, (uM11.trans uM9)⟩⟩
    · refine x_bipush 18 (-14) (ab_dd tk_re_readComparison 8 rfl) rfl (by decide) ?_
      refine x_istore_n 19 [some (.ref 72), some (.int ((-14)))] 1 (ab_dd tk_re_readComparison 9 rfl) rfl rfl (by decide) rfl ?_
      refine x_goto 52 (ab_dd tk_re_readComparison 10 rfl) (by decide) ?_
      refine x_aload_n 53 0 (ab_dd tk_re_readComparison 26 rfl) rfl rfl rfl ?_
      refine t_callV 56 M_re_advance 5 0 [] (ab_dd tk_re_readComparison 27 rfl) rfl (by first | decide | omega) K_re_advance V_re_advance.1 V_re_advance.2 L_re_64 rfl (Nat.le_of_ble_eq_true rfl) (by decide) (Nat.lt_of_lt_of_le (by decide) uL1.1.1) (uL1.1.2.1 22 (by decide)) rfl (LA_adv uL1 (by omega)) (fun v1 w1 h1 => ?_)
      obtain ⟨rfl, U12, rfl, uG12, uL12⟩ := h1
      have ht12 := tE_g uL1.2.2.2.2.2.2.1 (show tK tp n q1 ≠ 24 by omega)
      refine x_aload_n 57 0 (ab_dd tk_re_readComparison 28 rfl) rfl rfl rfl ?_
      refine t_callV 60 M_re_readSum (12 * (6 - deep) + 8 + 6) 0 [] (ab_dd tk_re_readComparison 29 rfl) rfl (by omega) K_re_readSum V_re_readSum.1 V_re_readSum.2 L_re_149 rfl (Nat.le_of_ble_eq_true rfl) (by decide) (Nat.lt_of_lt_of_le (by decide) uL12.1.1) (uL12.1.2.1 22 (by decide)) rfl (hS _ (N + c1.length) deep (tE tp n q1) uL12 (by exact (((qF.rf.tr uF1).tr uG12.F).2 9 (by omega)).trans h9) ((uG12.2 12 (by omega)).trans un1) ((uG12.2 10 (by omega)).trans uM1) (by first | omega | (simp only [List.length_append, List.length_cons, List.length_nil]; omega)) (by omega) (by omega)) (fun v1 w1 h1 => ?_)
      obtain ⟨rfl, U13, rfl, uF13, uO13⟩ := h1
      rcases hX13 : pS tp n la f 2 deep (tE tp n q1) with e13 | ⟨q13, c13⟩
      · rw [hX13] at uO13
        obtain ⟨uD13, uB13⟩ := uO13
        refine x_aload_n 61 0 (ab_dd tk_re_readComparison 30 rfl) rfl rfl rfl ?_
        refine x_iload_n 62 1 (ab_dd tk_re_readComparison 31 rfl) rfl rfl rfl ?_
        refine t_callV 65 M_re_put 0 1 [_] (ab_dd tk_re_readComparison 32 rfl) rfl (by first | decide | omega) K_re_put V_re_put.1 V_re_put.2 L_re_165 rfl (Nat.le_of_ble_eq_true rfl) (by decide) (Nat.lt_of_lt_of_le (by decide) uD13.1.1) (uD13.1.2.1 22 (by decide)) rfl (DA_put uD13 _) (fun v1 w1 h1 => ?_)
        obtain ⟨rfl, U14, rfl, uF14, uD14, uB14⟩ := h1
        have hsp : qCm tp n (pS tp n la f) deep p = .inl (e13) := by
          unfold qCm
          rw [hX1, pB_r]
          try dsimp only
          rw [if_pos (show 39 ≤ tK tp n q1 ∧ tK tp n q1 ≤ 41 by omega), hX13]
          try rfl
        exact x_vret (ab_dd tk_re_readComparison 33 rfl) ⟨rfl, _, rfl, ((((qF.rf.tr uF1).tr uG12.F).tr uF13).tr uF14), by rw [hsp]; exact ⟨uD14, (uB14 _ uB13).up (by first | omega | (simp only [List.length_append, List.length_cons, List.length_nil]; omega))⟩⟩
      · rw [hX13] at uO13
        obtain ⟨uL13, uC13, uN13, uM13⟩ := uO13
        have hg13 := pS_len _ _ _ _ _ _ uL12.2.2.2.2.2.2.1 hX13
        obtain ⟨hga13, hgb13, hgc13, hgd13⟩ := hg13
        have hge13 := hgd13 (by decide)
        have uf13 : sI U13 77 = appL N (sI S 77) (c1 ++ c13) := by rw [uC13, (uG12.la.trans uf1), appL_app]
        have un13 : sI U13 72 12 = nI (N + (c1 ++ c13).length) := uN13.trans (congrArg nI (by simp only [List.length_append, List.length_cons, List.length_nil] <;> omega))
        have uL13 : qLv U13 tp n q13 := uL13
        refine x_aload_n 61 0 (ab_dd tk_re_readComparison 30 rfl) rfl rfl rfl ?_
        refine x_iload_n 62 1 (ab_dd tk_re_readComparison 31 rfl) rfl rfl rfl ?_
        refine t_callV 65 M_re_put 0 1 [_] (ab_dd tk_re_readComparison 32 rfl) rfl (by first | decide | omega) K_re_put V_re_put.1 V_re_put.2 L_re_165 rfl (Nat.le_of_ble_eq_true rfl) (by decide) (Nat.lt_of_lt_of_le (by decide) uL13.1.1) (uL13.1.2.1 22 (by decide)) rfl (LA_put uL13 un13 (by first | omega | (simp only [List.length_append, List.length_cons, List.length_nil]; omega)) 3004 _ (by decide)) (fun v1 w1 h1 => ?_)
        obtain ⟨rfl, U15, rfl, uF15, uL15, uC15, uN15, uM15⟩ := h1
        have uf15 : sI U15 77 = appL N (sI S 77) ((c1 ++ c13) ++ [3004]) := by rw [uC15, uf13, appL_app]
        have un15 : sI U15 72 12 = nI (N + ((c1 ++ c13) ++ [3004]).length) := uN15.trans (congrArg nI (by simp only [List.length_append, List.length_cons, List.length_nil] <;> omega))
        have hsp : qCm tp n (pS tp n la f) deep p = .inr (q13, ((c1 ++ c13) ++ [3004])) := by
          unfold qCm
          rw [hX1, pB_r]
          try dsimp only
          rw [if_pos (show 39 ≤ tK tp n q1 ∧ tK tp n q1 ≤ 41 by omega), hX13]
          show Sum.inr _ = _
          rw [show 2964 + tK tp n q1 = 3004 by omega]
          try rfl
        exact x_vret (ab_dd tk_re_readComparison 33 rfl) ⟨rfl, _, rfl, ((((qF.rf.tr uF1).tr uG12.F).tr uF13).tr uF15), by rw [hsp]; exact ⟨uL15, uf15, un15, (uM15.trans uM13)⟩⟩
theorem k_readUnit {G : ab_G} {tp : Nat → Nat} {n la f : Nat} (hla : la < 2) (hS : KM G tp n la M_re_readSum 2 3 f) (hU : KM G tp n la M_re_readUnit 3 4 f) (hR : KM G tp n la M_re_readTruth 5 6 f) : KM G tp n la M_re_readUnit 3 4 (f + 1) := by
  intro S N deep p hL h9 hN h10 hNp hdeep hfu
  have hp := hL.2.2.2.2.2.2.1
  have hn9 := hL.2.2.2.1
  have hk42 := tK_lt tp n p
  have hr42 := tN_lt (tp := tp) hp
  have hgap := tK_gap tp n p
  obtain ⟨ck0, ck1, ck2, ck3, ck4⟩ := ckd_i (tK tp n p) hgap
  have ckl := ckd_lt (tK tp n p)
  refine x_enter [some (.ref 72)] (by decide) (Nat.le_of_ble_eq_true rfl) rfl (fun v w' h => by obtain ⟨rfl, -⟩ := h; trivial) ?_
  refine x_aload_n 1 0 (ab_dd tk_re_readUnit 0 rfl) rfl rfl rfl ?_
  refine x_ldcS 3 9 (ab_dd tk_re_readUnit 1 rfl) rfl (by decide) (List.mem_of_getElem? (i := 9) rfl) ?_
  refine t_callV 6 M_re_isWord 4 1 [_] (ab_dd tk_re_readUnit 2 rfl) rfl (by first | decide | omega) K_re_isWord V_re_isWord.1 V_re_isWord.2 L_re_93 rfl (Nat.le_of_ble_eq_true rfl) (by decide) (Nat.lt_of_lt_of_le (by decide) hL.1.1) (hL.1.2.1 22 (by decide)) rfl (LA_isWord hL 20 9 (by decide) rfl) (fun v1 w1 h1 => ?_)
  obtain ⟨rfl, rfl⟩ := h1
  refine xb_if_eq 9 39 (ab_dd tk_re_readUnit 3 rfl) rfl (by decide) (fun h6 => ?_) (fun h6 => ?_)
  · refine x_aload_n 40 0 (ab_dd tk_re_readUnit 19 rfl) rfl rfl rfl ?_
    refine x_bipush 42 91 (ab_dd tk_re_readUnit 20 rfl) rfl (by decide) (x_topn 91 rfl ?_)
    refine t_callV 45 M_re_isSign 0 1 [_] (ab_dd tk_re_readUnit 21 rfl) rfl (by first | decide | omega) K_re_isSign V_re_isSign.1 V_re_isSign.2 L_re_161 rfl (Nat.le_of_ble_eq_true rfl) (by decide) (Nat.lt_of_lt_of_le (by decide) hL.1.1) (hL.1.2.1 22 (by decide)) rfl (LA_sg hL 7 91 (by decide) (by decide)) (fun v1 w1 h1 => ?_)
    obtain ⟨rfl, rfl⟩ := h1
    refine xb_if_eq 48 78 (ab_dd tk_re_readUnit 22 rfl) rfl (by decide) (fun h45 => ?_) (fun h45 => ?_)
    · refine x_aload_n 79 0 (ab_dd tk_re_readUnit 38 rfl) rfl rfl rfl ?_
      refine t_callV 82 M_re_readComparison (12 * (6 - deep) + 15) 0 [] (ab_dd tk_re_readUnit 39 rfl) rfl (by omega) K_re_readComparison V_re_readComparison.1 V_re_readComparison.2 L_re_202 rfl (Nat.le_of_ble_eq_true rfl) (by decide) (Nat.lt_of_lt_of_le (by decide) hL.1.1) (hL.1.2.1 22 (by decide)) rfl (k_readComparison hla hS _ N deep p hL h9 hN h10 hNp hdeep (by omega)) (fun v1 w1 h1 => ?_)
      obtain ⟨rfl, U1, rfl, uF1, uO1⟩ := h1
      rcases hX1 : qCm tp n (pS tp n la f) deep p with e1 | ⟨q1, c1⟩
      · rw [hX1] at uO1
        obtain ⟨uD1, uB1⟩ := uO1
        have hsp : pS tp n la (f + 1) 3 deep p = .inl (e1) := by
          show qUn _ _ _ _ _ = _
          unfold qUn
          rw [if_neg h6]
          rw [if_neg h45]
          show qCm tp n (pS tp n la f) deep p = _
          rw [hX1]
          try rfl
        exact x_vret (ab_dd tk_re_readUnit 40 rfl) ⟨rfl, _, rfl, (qF.rf.tr uF1), by rw [hsp]; exact ⟨uD1, uB1.up (by first | omega | (simp only [List.length_append, List.length_cons, List.length_nil]; omega))⟩⟩
      · rw [hX1] at uO1
        obtain ⟨uL1, uC1, uN1, uM1⟩ := uO1
        have uf1 : sI U1 77 = appL N (sI S 77) c1 := uC1.trans (congrArg (fun z => appL N z c1) rfl)
        have hsp : pS tp n la (f + 1) 3 deep p = .inr (q1, c1) := by
          show qUn _ _ _ _ _ = _
          unfold qUn
          rw [if_neg h6]
          rw [if_neg h45]
          show qCm tp n (pS tp n la f) deep p = _
          rw [hX1]
          try rfl
        exact x_vret (ab_dd tk_re_readUnit 40 rfl) ⟨rfl, _, rfl, (qF.rf.tr uF1), by rw [hsp]; exact ⟨uL1, uf1, uN1, uM1⟩⟩
    · refine x_aload_n 49 0 (ab_dd tk_re_readUnit 23 rfl) rfl rfl rfl ?_
      refine t_callV 52 M_re_enter 6 0 [] (ab_dd tk_re_readUnit 24 rfl) rfl (by first | decide | omega) K_re_enter V_re_enter.1 V_re_enter.2 L_re_171 rfl (Nat.le_of_ble_eq_true rfl) (by decide) (Nat.lt_of_lt_of_le (by decide) hL.1.1) (hL.1.2.1 22 (by decide)) rfl (LA_enter hL deep hdeep h10 (by omega)) (fun v1 w1 h1 => ?_)
      rcases h1 with ⟨hd2, rfl, U2, rfl, uF2, uD2, uB2⟩ | ⟨hd2, rfl, U2, rfl, uF2, uC2, uN2, uM2, uL2⟩
      · skip
        refine x_if_eq_t 82 (ab_dd tk_re_readUnit 25 rfl) (by decide) (by decide) ?_
        have hsp : pS tp n la (f + 1) 3 deep p = .inl ((pE tp n p 4)) := by
          show qUn _ _ _ _ _ = _
          unfold qUn
          rw [if_neg h6]
          rw [if_pos h45]
          rw [if_pos hd2]
          try rfl
        exact x_vret (ab_dd tk_re_readUnit 40 rfl) ⟨rfl, _, rfl, (qF.rf.tr uF2), by rw [hsp]; exact ⟨uD2, (bL.g (S := _) ⟨_, Nat.le_refl _, (by first | omega | (simp only [List.length_append, List.length_cons, List.length_nil]; omega)), hN⟩ uB2).up (by first | omega | (simp only [List.length_append, List.length_cons, List.length_nil]; omega))⟩⟩
      · have ht2 := tE_g hL.2.2.2.2.2.2.1 (show tK tp n p ≠ 24 by omega)
        refine x_if_eq_f 55 (ab_dd tk_re_readUnit 25 rfl) rfl 82 (by decide) (by decide) ?_
        refine x_aload_n 56 0 (ab_dd tk_re_readUnit 26 rfl) rfl rfl rfl ?_
        refine t_callV 59 M_re_readTruth (12 * (6 - (deep + 1)) + 8 + 12) 0 [] (ab_dd tk_re_readUnit 27 rfl) rfl (by omega) K_re_readTruth V_re_readTruth.1 V_re_readTruth.2 L_re_146 rfl (Nat.le_of_ble_eq_true rfl) (by decide) (Nat.lt_of_lt_of_le (by decide) uL2.1.1) (uL2.1.2.1 22 (by decide)) rfl (hR _ N (deep + 1) (tE tp n p) uL2 (by exact ((qF.rf.tr uF2).2 9 (by omega)).trans h9) (uN2.trans hN) uM2 (by first | omega | (simp only [List.length_append, List.length_cons, List.length_nil]; omega)) (by omega) (by omega)) (fun v1 w1 h1 => ?_)
        obtain ⟨rfl, U3, rfl, uF3, uO3⟩ := h1
        rcases hX3 : pS tp n la f 5 (deep + 1) (tE tp n p) with e3 | ⟨q3, c3⟩
        · rw [hX3] at uO3
          obtain ⟨uD3, uB3⟩ := uO3
          refine x_aload_n 60 0 (ab_dd tk_re_readUnit 28 rfl) rfl rfl rfl ?_
          refine x_bipush 62 93 (ab_dd tk_re_readUnit 29 rfl) rfl (by decide) (x_topn 93 rfl ?_)
          refine t_callV 65 M_re_needSign 6 1 [_] (ab_dd tk_re_readUnit 30 rfl) rfl (by first | decide | omega) K_re_needSign V_re_needSign.1 V_re_needSign.2 L_re_81 rfl (Nat.le_of_ble_eq_true rfl) (by decide) (Nat.lt_of_lt_of_le (by decide) uD3.1.1) (uD3.1.2.1 22 (by decide)) rfl (DA_needSign uD3 _) (fun v1 w1 h1 => ?_)
          obtain ⟨rfl, U4, rfl, uG4, uD4⟩ := h1
          refine x_aload_n 66 0 (ab_dd tk_re_readUnit 31 rfl) rfl rfl rfl ?_
          refine x_dup 67 (ab_dd tk_re_readUnit 32 rfl) rfl rfl ?_
          refine t_getI 70 (ab_dd tk_re_readUnit 33 rfl) rfl F_re_48 (by decide) (Nat.lt_of_lt_of_le (by decide) uD4.1.1) (uD4.1.2.1 22 (by decide)) rfl ?_
          refine x_iconst 71 1 (ab_dd tk_re_readUnit 34 rfl) rfl (by decide) (x_topn 1 rfl ?_)
          refine x_isub 72 (ab_dd tk_re_readUnit 35 rfl) rfl ?_
          refine t_putI 75 (ab_dd tk_re_readUnit 36 rfl) rfl F_re_48 (by decide) (Nat.lt_of_lt_of_le (by decide) uD4.1.1) (uD4.1.2.1 22 (by decide)) rfl rfl rfl ?_
          refine x_goto 82 (ab_dd tk_re_readUnit 37 rfl) (by decide) ?_
          have hsp : pS tp n la (f + 1) 3 deep p = .inl (e3) := by
            show qUn _ _ _ _ _ = _
            unfold qUn
            rw [if_neg h6]
            rw [if_pos h45]
            rw [if_neg hd2]
            rw [hX3]
            try rfl
          exact x_vret (ab_dd tk_re_readUnit 40 rfl) ⟨rfl, _, rfl, ((((qF.rf.tr uF2).tr uF3).tr uG4.F).ne), by rw [hsp]; exact ⟨(uD4.ne), ((uB3.g (uG4.2 12 (by omega))).g (gI_k (by decide))).up (by first | omega | (simp only [List.length_append, List.length_cons, List.length_nil]; omega))⟩⟩
        · rw [hX3] at uO3
          obtain ⟨uL3, uC3, uN3, uM3⟩ := uO3
          have hg3 := pS_len _ _ _ _ _ _ uL2.2.2.2.2.2.2.1 hX3
          obtain ⟨hga3, hgb3, hgc3, hgd3⟩ := hg3
          have hge3 := hgd3 (by decide)
          have uf3 : sI U3 77 = appL N (sI S 77) c3 := uC3.trans (congrArg (fun z => appL N z c3) (uC2.trans rfl))
          have un3 : sI U3 72 12 = nI (N + c3.length) := uN3.trans (congrArg nI (by simp only [List.length_append, List.length_cons, List.length_nil] <;> omega))
          have uL3 : qLv U3 tp n q3 := uL3
          refine x_aload_n 60 0 (ab_dd tk_re_readUnit 28 rfl) rfl rfl rfl ?_
          refine x_bipush 62 93 (ab_dd tk_re_readUnit 29 rfl) rfl (by decide) (x_topn 93 rfl ?_)
          refine t_callV 65 M_re_needSign 6 1 [_] (ab_dd tk_re_readUnit 30 rfl) rfl (by first | decide | omega) K_re_needSign V_re_needSign.1 V_re_needSign.2 L_re_81 rfl (Nat.le_of_ble_eq_true rfl) (by decide) (Nat.lt_of_lt_of_le (by decide) uL3.1.1) (uL3.1.2.1 22 (by decide)) rfl (LA_nsg uL3 8 93 (by decide) (by decide)) (fun v1 w1 h1 => ?_)
          obtain ⟨rfl, U5, rfl, uG5, uO5⟩ := h1
          rcases uO5 with ⟨hk5, uL5⟩ | ⟨hk5, uD5⟩
          · have ht5 := tE_g uL3.2.2.2.2.2.2.1 (show tK tp n q3 ≠ 24 by omega)
            refine x_aload_n 66 0 (ab_dd tk_re_readUnit 31 rfl) rfl rfl rfl ?_
            refine x_dup 67 (ab_dd tk_re_readUnit 32 rfl) rfl rfl ?_
            refine t_getI 70 (ab_dd tk_re_readUnit 33 rfl) rfl F_re_48 (by decide) (Nat.lt_of_lt_of_le (by decide) uL5.1.1) (uL5.1.2.1 22 (by decide)) rfl (x_topn (deep + 1) ((uG5.2 10 (by omega)).trans uM3) ?_)
            refine x_iconst 71 1 (ab_dd tk_re_readUnit 34 rfl) rfl (by decide) (x_topn 1 rfl ?_)
            refine x_isub 72 (ab_dd tk_re_readUnit 35 rfl) rfl (x_topn ((deep + 1) - 1) (pk_sub (by omega)) ?_)
            refine t_putI 75 (ab_dd tk_re_readUnit 36 rfl) rfl F_re_48 (by decide) (Nat.lt_of_lt_of_le (by decide) uL5.1.1) (uL5.1.2.1 22 (by decide)) rfl rfl rfl ?_
            refine x_goto 82 (ab_dd tk_re_readUnit 37 rfl) (by decide) ?_
            have hsp : pS tp n la (f + 1) 3 deep p = .inr ((tE tp n q3), c3) := by
              show qUn _ _ _ _ _ = _
              unfold qUn
              rw [if_neg h6]
              rw [if_pos h45]
              rw [if_neg hd2]
              rw [hX3, pB_r]
              try dsimp only
              try unfold qX
              rw [if_pos hk5]
              try dsimp only
              try rfl
            exact x_vret (ab_dd tk_re_readUnit 40 rfl) ⟨rfl, _, rfl, ((((qF.rf.tr uF2).tr uF3).tr uG5.F).ne), by rw [hsp]; exact ⟨(uL5.ne), ((gI_o (by decide)).trans (uG5.la.trans uf3)), ((gI_k (by decide)).trans ((uG5.2 12 (by omega)).trans un3)), (show sI (pI _ 72 10 _) 72 10 = nI deep from gI_s)⟩⟩
          · skip
            refine x_aload_n 66 0 (ab_dd tk_re_readUnit 31 rfl) rfl rfl rfl ?_
            refine x_dup 67 (ab_dd tk_re_readUnit 32 rfl) rfl rfl ?_
            refine t_getI 70 (ab_dd tk_re_readUnit 33 rfl) rfl F_re_48 (by decide) (Nat.lt_of_lt_of_le (by decide) uD5.1.1) (uD5.1.2.1 22 (by decide)) rfl ?_
            refine x_iconst 71 1 (ab_dd tk_re_readUnit 34 rfl) rfl (by decide) (x_topn 1 rfl ?_)
            refine x_isub 72 (ab_dd tk_re_readUnit 35 rfl) rfl ?_
            refine t_putI 75 (ab_dd tk_re_readUnit 36 rfl) rfl F_re_48 (by decide) (Nat.lt_of_lt_of_le (by decide) uD5.1.1) (uD5.1.2.1 22 (by decide)) rfl rfl rfl ?_
            refine x_goto 82 (ab_dd tk_re_readUnit 37 rfl) (by decide) ?_
            have hsp : pS tp n la (f + 1) 3 deep p = .inl ((pE tp n q3 2)) := by
              show qUn _ _ _ _ _ = _
              unfold qUn
              rw [if_neg h6]
              rw [if_pos h45]
              rw [if_neg hd2]
              rw [hX3, pB_r]
              try dsimp only
              try unfold qX
              rw [if_neg hk5]
              try rfl
            exact x_vret (ab_dd tk_re_readUnit 40 rfl) ⟨rfl, _, rfl, ((((qF.rf.tr uF2).tr uF3).tr uG5.F).ne), by rw [hsp]; exact ⟨(uD5.ne), ((bL.g (S := _) ⟨_, Nat.le_refl _, (by first | omega | (simp only [List.length_append, List.length_cons, List.length_nil]; omega)), un3⟩ (uG5.2 12 (by omega))).g (gI_k (by decide))).up (by first | omega | (simp only [List.length_append, List.length_cons, List.length_nil]; omega))⟩⟩
  · refine x_aload_n 10 0 (ab_dd tk_re_readUnit 4 rfl) rfl rfl rfl ?_
    refine t_callV 13 M_re_enter 6 0 [] (ab_dd tk_re_readUnit 5 rfl) rfl (by first | decide | omega) K_re_enter V_re_enter.1 V_re_enter.2 L_re_171 rfl (Nat.le_of_ble_eq_true rfl) (by decide) (Nat.lt_of_lt_of_le (by decide) hL.1.1) (hL.1.2.1 22 (by decide)) rfl (LA_enter hL deep hdeep h10 (by omega)) (fun v1 w1 h1 => ?_)
    rcases h1 with ⟨hd6, rfl, U6, rfl, uF6, uD6, uB6⟩ | ⟨hd6, rfl, U6, rfl, uF6, uC6, uN6, uM6, uL6⟩
    · skip
      refine x_if_eq_t 82 (ab_dd tk_re_readUnit 6 rfl) (by decide) (by decide) ?_
      have hsp : pS tp n la (f + 1) 3 deep p = .inl ((pE tp n p 4)) := by
        show qUn _ _ _ _ _ = _
        unfold qUn
        rw [if_pos h6]
        rw [if_pos hd6]
        try rfl
      exact x_vret (ab_dd tk_re_readUnit 40 rfl) ⟨rfl, _, rfl, (qF.rf.tr uF6), by rw [hsp]; exact ⟨uD6, (bL.g (S := _) ⟨_, Nat.le_refl _, (by first | omega | (simp only [List.length_append, List.length_cons, List.length_nil]; omega)), hN⟩ uB6).up (by first | omega | (simp only [List.length_append, List.length_cons, List.length_nil]; omega))⟩⟩
    · have ht6 := tE_g hL.2.2.2.2.2.2.1 (show tK tp n p ≠ 24 by omega)
      refine x_if_eq_f 16 (ab_dd tk_re_readUnit 6 rfl) rfl 82 (by decide) (by decide) ?_
      refine x_aload_n 17 0 (ab_dd tk_re_readUnit 7 rfl) rfl rfl rfl ?_
      refine t_callV 20 M_re_readUnit (12 * (6 - (deep + 1)) + 8 + 8) 0 [] (ab_dd tk_re_readUnit 8 rfl) rfl (by omega) K_re_readUnit V_re_readUnit.1 V_re_readUnit.2 L_re_195 rfl (Nat.le_of_ble_eq_true rfl) (by decide) (Nat.lt_of_lt_of_le (by decide) uL6.1.1) (uL6.1.2.1 22 (by decide)) rfl (hU _ N (deep + 1) (tE tp n p) uL6 (by exact ((qF.rf.tr uF6).2 9 (by omega)).trans h9) (uN6.trans hN) uM6 (by first | omega | (simp only [List.length_append, List.length_cons, List.length_nil]; omega)) (by omega) (by omega)) (fun v1 w1 h1 => ?_)
      obtain ⟨rfl, U7, rfl, uF7, uO7⟩ := h1
      rcases hX7 : pS tp n la f 3 (deep + 1) (tE tp n p) with e7 | ⟨q7, c7⟩
      · rw [hX7] at uO7
        obtain ⟨uD7, uB7⟩ := uO7
        refine x_aload_n 21 0 (ab_dd tk_re_readUnit 9 rfl) rfl rfl rfl ?_
        refine x_dup 22 (ab_dd tk_re_readUnit 10 rfl) rfl rfl ?_
        refine t_getI 25 (ab_dd tk_re_readUnit 11 rfl) rfl F_re_48 (by decide) (Nat.lt_of_lt_of_le (by decide) uD7.1.1) (uD7.1.2.1 22 (by decide)) rfl ?_
        refine x_iconst 26 1 (ab_dd tk_re_readUnit 12 rfl) rfl (by decide) (x_topn 1 rfl ?_)
        refine x_isub 27 (ab_dd tk_re_readUnit 13 rfl) rfl ?_
        refine t_putI 30 (ab_dd tk_re_readUnit 14 rfl) rfl F_re_48 (by decide) (Nat.lt_of_lt_of_le (by decide) uD7.1.1) (uD7.1.2.1 22 (by decide)) rfl rfl rfl ?_
        refine x_aload_n 31 0 (ab_dd tk_re_readUnit 15 rfl) rfl rfl rfl ?_
        refine x_bipush 33 (-16) (ab_dd tk_re_readUnit 16 rfl) rfl (by decide) ?_
        refine t_callV 36 M_re_put 0 1 [_] (ab_dd tk_re_readUnit 17 rfl) rfl (by first | decide | omega) K_re_put V_re_put.1 V_re_put.2 L_re_165 rfl (Nat.le_of_ble_eq_true rfl) (by decide) (Nat.lt_of_lt_of_le (by decide) (uD7.ne).1.1) ((uD7.ne).1.2.1 22 (by decide)) rfl (DA_put (uD7.ne) _) (fun v1 w1 h1 => ?_)
        obtain ⟨rfl, U8, rfl, uF8, uD8, uB8⟩ := h1
        refine x_goto 82 (ab_dd tk_re_readUnit 18 rfl) (by decide) ?_
        have hsp : pS tp n la (f + 1) 3 deep p = .inl (e7) := by
          show qUn _ _ _ _ _ = _
          unfold qUn
          rw [if_pos h6]
          rw [if_neg hd6]
          rw [hX7]
          try rfl
        exact x_vret (ab_dd tk_re_readUnit 40 rfl) ⟨rfl, _, rfl, ((((qF.rf.tr uF6).tr uF7).ne).tr uF8), by rw [hsp]; exact ⟨uD8, (uB8 _ (uB7.g (gI_k (by decide)))).up (by first | omega | (simp only [List.length_append, List.length_cons, List.length_nil]; omega))⟩⟩
      · rw [hX7] at uO7
        obtain ⟨uL7, uC7, uN7, uM7⟩ := uO7
        have hg7 := pS_len _ _ _ _ _ _ uL6.2.2.2.2.2.2.1 hX7
        obtain ⟨hga7, hgb7, hgc7, hgd7⟩ := hg7
        have hge7 := hgd7 (by decide)
        have uf7 : sI U7 77 = appL N (sI S 77) c7 := uC7.trans (congrArg (fun z => appL N z c7) (uC6.trans rfl))
        have un7 : sI U7 72 12 = nI (N + c7.length) := uN7.trans (congrArg nI (by simp only [List.length_append, List.length_cons, List.length_nil] <;> omega))
        have uL7 : qLv U7 tp n q7 := uL7
        refine x_aload_n 21 0 (ab_dd tk_re_readUnit 9 rfl) rfl rfl rfl ?_
        refine x_dup 22 (ab_dd tk_re_readUnit 10 rfl) rfl rfl ?_
        refine t_getI 25 (ab_dd tk_re_readUnit 11 rfl) rfl F_re_48 (by decide) (Nat.lt_of_lt_of_le (by decide) uL7.1.1) (uL7.1.2.1 22 (by decide)) rfl (x_topn (deep + 1) uM7 ?_)
        refine x_iconst 26 1 (ab_dd tk_re_readUnit 12 rfl) rfl (by decide) (x_topn 1 rfl ?_)
        refine x_isub 27 (ab_dd tk_re_readUnit 13 rfl) rfl (x_topn ((deep + 1) - 1) (pk_sub (by omega)) ?_)
        refine t_putI 30 (ab_dd tk_re_readUnit 14 rfl) rfl F_re_48 (by decide) (Nat.lt_of_lt_of_le (by decide) uL7.1.1) (uL7.1.2.1 22 (by decide)) rfl rfl rfl ?_
        refine x_aload_n 31 0 (ab_dd tk_re_readUnit 15 rfl) rfl rfl rfl ?_
        refine x_bipush 33 (-16) (ab_dd tk_re_readUnit 16 rfl) rfl (by decide) ?_
        refine t_callV 36 M_re_put 0 1 [_] (ab_dd tk_re_readUnit 17 rfl) rfl (by first | decide | omega) K_re_put V_re_put.1 V_re_put.2 L_re_165 rfl (Nat.le_of_ble_eq_true rfl) (by decide) (Nat.lt_of_lt_of_le (by decide) (uL7.ne).1.1) ((uL7.ne).1.2.1 22 (by decide)) rfl (LA_put (uL7.ne) ((gI_k (by decide)).trans un7) (by first | omega | (simp only [List.length_append, List.length_cons, List.length_nil]; omega)) 3006 _ (by decide)) (fun v1 w1 h1 => ?_)
        obtain ⟨rfl, U9, rfl, uF9, uL9, uC9, uN9, uM9⟩ := h1
        have uf9 : sI U9 77 = appL N (sI S 77) (c7 ++ [3006]) := by rw [uC9, ((gI_o (by decide)).trans uf7), appL_app]
        have un9 : sI U9 72 12 = nI (N + (c7 ++ [3006]).length) := uN9.trans (congrArg nI (by simp only [List.length_append, List.length_cons, List.length_nil] <;> omega))
        refine x_goto 82 (ab_dd tk_re_readUnit 18 rfl) (by decide) ?_
        have hsp : pS tp n la (f + 1) 3 deep p = .inr (q7, (c7 ++ [3006])) := by
          show qUn _ _ _ _ _ = _
          unfold qUn
          rw [if_pos h6]
          rw [if_neg hd6]
          rw [hX7]
          try rfl
        exact x_vret (ab_dd tk_re_readUnit 40 rfl) ⟨rfl, _, rfl, ((((qF.rf.tr uF6).tr uF7).ne).tr uF9), by rw [hsp]; exact ⟨uL9, uf9, un9, (uM9.trans (show sI (pI _ 72 10 _) 72 10 = nI deep from gI_s))⟩⟩
theorem k_all {G : ab_G} {tp : Nat → Nat} {n la : Nat} (hla : la < 2) : ∀ f g, g ≤ f → KM G tp n la M_re_readAtom 0 1 g ∧ KM G tp n la M_re_readTerm 1 2 g ∧ KM G tp n la M_re_readSum 2 3 g ∧ KM G tp n la M_re_readUnit 3 4 g ∧ KM G tp n la M_re_readBoth 4 5 g ∧ KM G tp n la M_re_readTruth 5 6 g
  | 0, g, hg => by
    have hg0 : g = 0 := by omega
    rw [hg0]
    exact ⟨fun _ _ _ _ _ _ _ _ _ _ z => absurd z (by omega), fun _ _ _ _ _ _ _ _ _ _ z => absurd z (by omega), fun _ _ _ _ _ _ _ _ _ _ z => absurd z (by omega), fun _ _ _ _ _ _ _ _ _ _ z => absurd z (by omega), fun _ _ _ _ _ _ _ _ _ _ z => absurd z (by omega), fun _ _ _ _ _ _ _ _ _ _ z => absurd z (by omega)⟩
  | f + 1, g, hg => by
    have ih := k_all (G := G) (tp := tp) (n := n) hla f
    by_cases h : g ≤ f
    · exact ih g h
    · have hg1 : g = f + 1 := by omega
      rw [hg1]
      have h1 := ih f (Nat.le_refl _)
      exact ⟨k_readAtom hla h1.2.2.1 h1.2.2.2.2.2, k_readTerm hla (fun g hg => (ih g hg).1), k_readSum hla (fun g hg => (ih g hg).2.1), k_readUnit hla h1.2.2.1 h1.2.2.2.1 h1.2.2.2.2.2, k_readBoth hla (fun g hg => (ih g hg).2.2.2.1), k_readTruth hla (fun g hg => (ih g hg).2.2.2.2.1)⟩
