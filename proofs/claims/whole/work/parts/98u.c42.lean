/-! ===== the class's reader: a line ===== -/
def lnQ (S : ab_S) (tp : Nat → Nat) (n p c : Nat) (r : lR) (v : Option Value) (w' : ab_H) : Prop := v = none ∧ ∃ S' m z, w' = sw S' ∧ lF c S S' m z ∧ m ≤ 1 ∧ (match r with
  | .inl e => tD S' n e c ∧ z ≤ n - p
  | .inr y => (∃ r1 N1, tL S' tp n y.1 c y.2 r1 r1 ∧ tW S' c y.2 N1 ∧ N1 ≤ y.1) ∧ p < y.1 ∧ p + z ≤ y.1)
def tb_re_readLine : List (Nat × Instr × Nat) := [(0, .aload_n 0, 1), (1, .ldc 91, 2), (3, .invokevirtual 93, 3), (6, .ifCond .eq 10, 3), (9, .aload_n 0, 1), (10, .invokevirtual 97, 3), (13, .goto 64, 3), (16, .aload_n 0, 1), (17, .ldc 100, 2), (19, .invokevirtual 93, 3), (22, .ifCond .eq 22, 3), (25, .aload_n 0, 1), (26, .invokevirtual 64, 3), (29, .aload_n 0, 1), (30, .getfield 40, 3), (33, .aload_n 0, 1), (34, .iconst 0, 1), (35, .invokevirtual 102, 3), (38, .putfield 106, 3), (41, .goto 36, 3), (44, .aload_n 0, 1), (45, .ldc 109, 2), (47, .invokevirtual 93, 3), (50, .ifCond .eq 22, 3), (53, .aload_n 0, 1), (54, .invokevirtual 64, 3), (57, .aload_n 0, 1), (58, .getfield 40, 3), (61, .aload_n 0, 1), (62, .iconst 1, 1), (63, .invokevirtual 102, 3), (66, .putfield 111, 3), (69, .goto 8, 3), (72, .aload_n 0, 1), (73, .iconst 2, 1), (74, .invokevirtual 114, 3), (77, .return_, 1)]
theorem tk_re_readLine : ∀ q ∈ tb_re_readLine, decode M_re_readLine.2.1 q.1 = .ok q.2 := by decide +kernel
theorem LA_readLine {G : ab_G} {S : ab_S} {tp : Nat → Nat} {n p c r N : Nat} {F : Nat → Int32} (uT0 : tL S tp n p c F r r) (hW : tW S c F N) (hNp : N ≤ p) : ab_C G 101 M_re_readLine [.ref 72] (sw S) (lnQ S tp n p c (lnr tp n p F)) := by
  refine x_enter [some (.ref 72)] (by decide) (Nat.le_of_ble_eq_true rfl) rfl (fun v w' h => by obtain ⟨rfl, -⟩ := h; trivial) ?_
  have hc145 := uT0.2.2.1.1
  have hcn := uT0.2.2.1.2.1
  have hp := uT0.1.2.2.2.2.2.2.1
  have hn9 := uT0.1.2.2.2.1
  have hr4 := uT0.2.2.2.1.2.2.2.2.2.2.2.1
  have hF1 := uT0.2.2.2.1.2.2.2.2.2.2.1
  have hcN : cN (F 183) = N := by rw [hW.1, cN_nI (by have := hW.2.1; omega)]
  have uF0 : tF c S S := tF.rf
  refine x_aload_n 1 0 (ab_dd tk_re_readLine 0 rfl) rfl rfl rfl ?_
  refine x_ldcS 3 3 (ab_dd tk_re_readLine 1 rfl) rfl (by decide) (List.mem_of_getElem? (i := 3) rfl) ?_
  refine t_callV 6 M_re_isWord 4 1 [_] (ab_dd tk_re_readLine 2 rfl) rfl (by first | decide | omega) K_re_isWord V_re_isWord.1 V_re_isWord.2 L_re_93 rfl (Nat.le_of_ble_eq_true rfl) (by decide) (Nat.lt_of_lt_of_le (by decide) uT0.1.1.1) (uT0.1.1.2.1 22 (by decide)) rfl (LA_isWord uT0.1 2 3 (by decide) rfl) (fun v1 w1 h1 => ?_)
  obtain ⟨rfl, rfl⟩ := h1
  refine xb_if_eq 9 16 (ab_dd tk_re_readLine 3 rfl) rfl (by decide) (fun h6 => ?_) (fun h6 => ?_)
  · refine x_aload_n 17 0 (ab_dd tk_re_readLine 7 rfl) rfl rfl rfl ?_
    refine x_ldcS 19 8 (ab_dd tk_re_readLine 8 rfl) rfl (by decide) (List.mem_of_getElem? (i := 8) rfl) ?_
    refine t_callV 22 M_re_isWord 4 1 [_] (ab_dd tk_re_readLine 9 rfl) rfl (by first | decide | omega) K_re_isWord V_re_isWord.1 V_re_isWord.2 L_re_93 rfl (Nat.le_of_ble_eq_true rfl) (by decide) (Nat.lt_of_lt_of_le (by decide) uT0.1.1.1) (uT0.1.1.2.1 22 (by decide)) rfl (LA_isWord uT0.1 7 8 (by decide) rfl) (fun v1 w1 h1 => ?_)
    obtain ⟨rfl, rfl⟩ := h1
    refine xb_if_eq 25 44 (ab_dd tk_re_readLine 10 rfl) rfl (by decide) (fun h22 => ?_) (fun h22 => ?_)
    · refine x_aload_n 45 0 (ab_dd tk_re_readLine 20 rfl) rfl rfl rfl ?_
      refine x_ldcS 47 21 (ab_dd tk_re_readLine 21 rfl) rfl (by decide) (List.mem_of_getElem? (i := 21) rfl) ?_
      refine t_callV 50 M_re_isWord 4 1 [_] (ab_dd tk_re_readLine 22 rfl) rfl (by first | decide | omega) K_re_isWord V_re_isWord.1 V_re_isWord.2 L_re_93 rfl (Nat.le_of_ble_eq_true rfl) (by decide) (Nat.lt_of_lt_of_le (by decide) uT0.1.1.1) (uT0.1.1.2.1 22 (by decide)) rfl (LA_isWord uT0.1 8 21 (by decide) rfl) (fun v1 w1 h1 => ?_)
      obtain ⟨rfl, rfl⟩ := h1
      refine xb_if_eq 53 72 (ab_dd tk_re_readLine 23 rfl) rfl (by decide) (fun h50 => ?_) (fun h50 => ?_)
      · refine x_aload_n 73 0 (ab_dd tk_re_readLine 33 rfl) rfl rfl rfl ?_
        refine x_iconst 74 2 (ab_dd tk_re_readLine 34 rfl) rfl (by decide) (x_topn 2 rfl ?_)
        refine t_callV 77 M_re_refuse 0 1 [_] (ab_dd tk_re_readLine 35 rfl) rfl (by first | decide | omega) K_re_refuse V_re_refuse.1 V_re_refuse.2 L_re_114 rfl (Nat.le_of_ble_eq_true rfl) (by decide) (Nat.lt_of_lt_of_le (by decide) uT0.1.1.1) (uT0.1.1.2.1 22 (by decide)) rfl (LA_refuse uT0.1 2 (by decide) (by decide)) (fun v1 w1 h1 => ?_)
        obtain ⟨rfl, U8, rfl, uG8, uD8⟩ := h1
        have hsp : lnr tp n p F = .inl (pE tp n p 2) := by
          unfold lnr
          rw [if_neg h6, if_neg (by omega)]
        exact x_vret (ab_dd tk_re_readLine 36 rfl) ⟨rfl, U8, 0, 0, rfl, lF.t (tF.g uG8), by decide, by rw [hsp]; exact ⟨uT0.die hr4 uG8 uD8, Nat.zero_le _⟩⟩
      · refine x_aload_n 54 0 (ab_dd tk_re_readLine 24 rfl) rfl rfl rfl ?_
        refine t_callV 57 M_re_advance 5 0 [] (ab_dd tk_re_readLine 25 rfl) rfl (by first | decide | omega) K_re_advance V_re_advance.1 V_re_advance.2 L_re_64 rfl (Nat.le_of_ble_eq_true rfl) (by decide) (Nat.lt_of_lt_of_le (by decide) uT0.1.1.1) (uT0.1.1.2.1 22 (by decide)) rfl (LA_adv uT0.1 (by omega)) (fun v1 w1 h1 => ?_)
        obtain ⟨rfl, U1, rfl, uG1, uL1⟩ := h1
        have ht1 := tE_g hp (show tK tp n p ≠ 24 by omega)
        have uT1 := uT0.g uG1 uL1
        have uF1 : tF c S U1 := tF.g uG1
        have hn1 : sn U1 = sn S := uG1.1.2.2.2.2.2.1
        refine x_aload_n 58 0 (ab_dd tk_re_readLine 26 rfl) rfl rfl rfl ?_
        refine t_getP 61 c (ab_dd tk_re_readLine 27 rfl) rfl F_re_40 (by decide) (Nat.lt_of_lt_of_le (by decide) uT1.1.1.1) (uT1.1.1.2.1 22 (by decide)) rfl uT1.2.1 ?_
        refine x_aload_n 62 0 (ab_dd tk_re_readLine 28 rfl) rfl rfl rfl ?_
        refine x_iconst 63 1 (ab_dd tk_re_readLine 29 rfl) rfl (by decide) (x_topn 1 rfl ?_)
        refine t_callV 66 M_re_readLaw 100 1 [_] (ab_dd tk_re_readLine 30 rfl) rfl (by first | decide | omega) K_re_readLaw V_re_readLaw.1 V_re_readLaw.2 L_re_102 rfl (Nat.le_of_ble_eq_true rfl) (by decide) (Nat.lt_of_lt_of_le (by decide) uT1.1.1.1) (uT1.1.1.2.1 22 (by decide)) rfl (LA_readLaw uT1.1 1 (by decide) (by omega)) (fun v1 w1 h1 => ?_)
        obtain ⟨rfl, U2, z2, rfl, uN2, uO2⟩ := h1
        have uK2 : tcK U2 c := uT1.2.2.1.n uN2
        refine t_putP 69 (ab_dd tk_re_readLine 31 rfl) rfl F_re_111 (by omega) (Nat.lt_of_le_of_lt (Nat.le_add_right c 2) uK2.2.1) uK2.2.2.1 rfl ?_
        refine x_goto 77 (ab_dd tk_re_readLine 32 rfl) (by decide) ?_
        have hsp : lnr tp n p F = lwr tp n 1 p F := by
          unfold lnr
          rw [if_neg h6, if_pos (by omega), show tK tp n p - 7 = 1 by omega]
        rw [lwr_O] at hsp
        have hE2 : lF c S (pP U2 c 8 (some (sn U1))) (0 + 1 + 0) (0 + z2 + 0) := ((lF.t uF1).tr (lF.n (by omega) uN2)).tr (lF.pp (by decide))
        rcases hX : lwO tp n 1 (tE tp n p) with e | ⟨q, cs⟩
        · rw [hX] at uO2 hsp
          exact x_vret (ab_dd tk_re_readLine 36 rfl) ⟨rfl, _, _, _, rfl, hE2, by decide, by rw [hsp]; exact ⟨uT1.lawD (by omega) uN2 uO2.1 (by decide), by have := uO2.2; omega⟩⟩
        · rw [hX] at uO2 hsp
          obtain ⟨b1, b2, b3, b4, b5⟩ := uO2
          have b3' : tE tp n p + z2 < q := b3
          have b2' : z2 = cs.length := b2
          have hqn : q ≤ n := b1.2.2.2.2.2.2.1
          have hW1 : tW U1 c F N := hW.cg (fun _ _ => rfl) (by rw [uF1.1.2.2.2.2.1]) (by omega) (fun b h1 h2 => ⟨by rw [uF1.1.2.1], uF1.1.2.2.1 b (by simp only [List.mem_cons, List.not_mem_nil, or_false, not_or]; omega)⟩)
          have hW2 := hW1.law (la := 1) hc145 (by omega) (by decide) uN2 b4 b5 (by omega)
          have hT2 : tL (pP U2 c 8 (some (sn U1))) tp n q c (lwF 1 N F cs) r r := (uT1.law uN2 b1 (by decide)).lwf (by decide)
          rw [hcN] at hsp
          exact x_vret (ab_dd tk_re_readLine 36 rfl) ⟨rfl, _, _, _, rfl, hE2, by decide, by rw [hsp]; exact ⟨⟨r, N + cs.length, hT2, hW2, by show N + cs.length ≤ q; omega⟩, by show p < q; omega, by show p + (0 + z2 + 0) ≤ q; omega⟩⟩
    · refine x_aload_n 26 0 (ab_dd tk_re_readLine 11 rfl) rfl rfl rfl ?_
      refine t_callV 29 M_re_advance 5 0 [] (ab_dd tk_re_readLine 12 rfl) rfl (by first | decide | omega) K_re_advance V_re_advance.1 V_re_advance.2 L_re_64 rfl (Nat.le_of_ble_eq_true rfl) (by decide) (Nat.lt_of_lt_of_le (by decide) uT0.1.1.1) (uT0.1.1.2.1 22 (by decide)) rfl (LA_adv uT0.1 (by omega)) (fun v1 w1 h1 => ?_)
      obtain ⟨rfl, U1, rfl, uG1, uL1⟩ := h1
      have ht1 := tE_g hp (show tK tp n p ≠ 24 by omega)
      have uT1 := uT0.g uG1 uL1
      have uF1 : tF c S U1 := tF.g uG1
      have hn1 : sn U1 = sn S := uG1.1.2.2.2.2.2.1
      refine x_aload_n 30 0 (ab_dd tk_re_readLine 13 rfl) rfl rfl rfl ?_
      refine t_getP 33 c (ab_dd tk_re_readLine 14 rfl) rfl F_re_40 (by decide) (Nat.lt_of_lt_of_le (by decide) uT1.1.1.1) (uT1.1.1.2.1 22 (by decide)) rfl uT1.2.1 ?_
      refine x_aload_n 34 0 (ab_dd tk_re_readLine 15 rfl) rfl rfl rfl ?_
      refine x_iconst 35 0 (ab_dd tk_re_readLine 16 rfl) rfl (by decide) (x_topn 0 rfl ?_)
      refine t_callV 38 M_re_readLaw 100 1 [_] (ab_dd tk_re_readLine 17 rfl) rfl (by first | decide | omega) K_re_readLaw V_re_readLaw.1 V_re_readLaw.2 L_re_102 rfl (Nat.le_of_ble_eq_true rfl) (by decide) (Nat.lt_of_lt_of_le (by decide) uT1.1.1.1) (uT1.1.1.2.1 22 (by decide)) rfl (LA_readLaw uT1.1 0 (by decide) (by omega)) (fun v1 w1 h1 => ?_)
      obtain ⟨rfl, U2, z2, rfl, uN2, uO2⟩ := h1
      have uK2 : tcK U2 c := uT1.2.2.1.n uN2
      refine t_putP 41 (ab_dd tk_re_readLine 18 rfl) rfl F_re_106 (by omega) (Nat.lt_of_le_of_lt (Nat.le_add_right c 2) uK2.2.1) uK2.2.2.1 rfl ?_
      refine x_goto 77 (ab_dd tk_re_readLine 19 rfl) (by decide) ?_
      have hsp : lnr tp n p F = lwr tp n 0 p F := by
        unfold lnr
        rw [if_neg h6, if_pos (by omega), show tK tp n p - 7 = 0 by omega]
      rw [lwr_O] at hsp
      have hE2 : lF c S (pP U2 c 7 (some (sn U1))) (0 + 1 + 0) (0 + z2 + 0) := ((lF.t uF1).tr (lF.n (by omega) uN2)).tr (lF.pp (by decide))
      rcases hX : lwO tp n 0 (tE tp n p) with e | ⟨q, cs⟩
      · rw [hX] at uO2 hsp
        exact x_vret (ab_dd tk_re_readLine 36 rfl) ⟨rfl, _, _, _, rfl, hE2, by decide, by rw [hsp]; exact ⟨uT1.lawD (by omega) uN2 uO2.1 (by decide), by have := uO2.2; omega⟩⟩
      · rw [hX] at uO2 hsp
        obtain ⟨b1, b2, b3, b4, b5⟩ := uO2
        have b3' : tE tp n p + z2 < q := b3
        have b2' : z2 = cs.length := b2
        have hqn : q ≤ n := b1.2.2.2.2.2.2.1
        have hW1 : tW U1 c F N := hW.cg (fun _ _ => rfl) (by rw [uF1.1.2.2.2.2.1]) (by omega) (fun b h1 h2 => ⟨by rw [uF1.1.2.1], uF1.1.2.2.1 b (by simp only [List.mem_cons, List.not_mem_nil, or_false, not_or]; omega)⟩)
        have hW2 := hW1.law (la := 0) hc145 (by omega) (by decide) uN2 b4 b5 (by omega)
        have hT2 : tL (pP U2 c 7 (some (sn U1))) tp n q c (lwF 0 N F cs) r r := (uT1.law uN2 b1 (by decide)).lwf (by decide)
        rw [hcN] at hsp
        exact x_vret (ab_dd tk_re_readLine 36 rfl) ⟨rfl, _, _, _, rfl, hE2, by decide, by rw [hsp]; exact ⟨⟨r, N + cs.length, hT2, hW2, by show N + cs.length ≤ q; omega⟩, by show p < q; omega, by show p + (0 + z2 + 0) ≤ q; omega⟩⟩
  · refine x_aload_n 10 0 (ab_dd tk_re_readLine 4 rfl) rfl rfl rfl ?_
    refine t_callV 13 M_re_readRider 7 0 [] (ab_dd tk_re_readLine 5 rfl) rfl (by first | decide | omega) K_re_readRider V_re_readRider.1 V_re_readRider.2 L_re_97 rfl (Nat.le_of_ble_eq_true rfl) (by decide) (Nat.lt_of_lt_of_le (by decide) uT0.1.1.1) (uT0.1.1.2.1 22 (by decide)) rfl (LA_readRider uT0 h6) (fun v1 w1 h1 => ?_)
    obtain ⟨rfl, U9, rfl, uF9, uO9⟩ := h1
    refine x_goto 77 (ab_dd tk_re_readLine 6 rfl) (by decide) ?_
    have hsp : lnr tp n p F = rdr tp n p F := if_pos h6
    rcases hX : rdr tp n p F with e | ⟨q, F'⟩
    · rw [hX] at uO9 hsp
      exact x_vret (ab_dd tk_re_readLine 36 rfl) ⟨rfl, U9, 0, 0, rfl, lF.t uF9, by decide, by rw [hsp]; exact ⟨uO9, Nat.zero_le _⟩⟩
    · rw [hX] at uO9 hsp
      have hI : rwI p F := ⟨r, N, hr4, hF1, hW.1, hNp⟩
      have hg := rdr_g hp (by omega) hI hX
      have ho := rdr_o hp (by omega) hI hX
      obtain ⟨r1, hT9⟩ := uO9
      have hW9 : tW U9 c F' N := hW.cg (fun j hj => ho j (by omega)) (by rw [uF9.1.2.2.2.2.1]) (by rw [uF9.1.2.2.2.2.2.1]; exact Nat.le_refl _) (fun b h1 h2 => ⟨by rw [uF9.1.2.1], uF9.1.2.2.1 b (by simp only [List.mem_cons, List.not_mem_nil, or_false, not_or]; omega)⟩)
      exact x_vret (ab_dd tk_re_readLine 36 rfl) ⟨rfl, U9, 0, 0, rfl, lF.t uF9, by decide, by rw [hsp]; exact ⟨⟨r1, N, hT9, hW9, Nat.le_of_lt (Nat.lt_of_le_of_lt hNp hg.1)⟩, hg.1, Nat.le_of_lt hg.1⟩⟩
