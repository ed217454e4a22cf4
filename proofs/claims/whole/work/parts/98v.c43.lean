/-! ===== the class's reader: a text ===== -/
theorem xSh.r72 {S : ab_S} {k : Nat} {v : Option Nat} (hx : xSh S) (hk : k = 0 ∨ k = 8) : xSh (pP S 72 k v) := by
  obtain ⟨x1, x2, x3⟩ := hx
  refine ⟨x1, x2, fun t ht => ?_⟩
  have hn : ∀ t ∈ xPl, t.1 = 72 → t.2.1 ≠ 0 ∧ t.2.1 ≠ 8 := by decide
  by_cases z : t.1 = 72
  · rw [gP_k (by have := hn t ht z; omega)]; exact x3 t ht
  · rw [gP_o z]; exact x3 t ht
/-- the reader's cells, two of its references are others, cells more -/
def raF (S S' : ab_S) (m z : Nat) : Prop := S'.1 = S.1 ∧ sn S' = sn S + m ∧ sz S' = sz S + z ∧ (∀ b, b < sn S → sK S' b = sK S b) ∧ (∀ b, b < sn S → b ≠ 72 → sP S' b = sP S b) ∧ (∀ k, k ≠ 0 → k ≠ 8 → sP S' 72 k = sP S 72 k) ∧ ∀ b, b < sn S → b ≠ 72 → b ≠ 77 → sI S' b = sI S b ∧ sJ S' b = sJ S b
theorem raF.l {S S1 S2 : ab_S} {m z m' z' : Nat} (h : raF S S1 m z) (g : lF (sn S) S1 S2 m' z') (h120 : 120 ≤ sn S) : raF S S2 (m + m') (z + z') := by
  obtain ⟨h1, h2, h3, h4, h5, h6, h7⟩ := h
  obtain ⟨g1, g2, g3, g4, g5, g6, g7, g8⟩ := g
  refine ⟨g1.trans h1, by omega, by omega, fun b hb => (g4 b (by omega)).trans (h4 b hb), fun b hb hc => (g5 b (by omega) (by omega)).trans (h5 b hb hc), fun k k0 k8 => by rw [g5 72 (by omega) (by omega)]; exact h6 k k0 k8, fun b hb a1 a2 => ?_⟩
  obtain ⟨x1, x2⟩ := g7 b (by omega) a1 a2 (by omega) (by omega) (by omega)
  obtain ⟨y1, y2⟩ := h7 b hb a1 a2
  exact ⟨x1.trans y1, x2.trans y2⟩
def raQ (S : ab_S) (tp : Nat → Nat) (n : Nat) (r : lR) (v : Option Value) (w' : ab_H) : Prop := v = some (.ref (sn S)) ∧ ∃ S' m z, w' = sw S' ∧ raF S S' m z ∧ m ≤ 4 + n ∧ z ≤ 29 + n ∧ (match r with
  | .inl e => qD S' n e
  | .inr y => ∃ r1 N1, tL S' tp n y.1 (sn S) y.2 r1 r1 ∧ tW S' (sn S) y.2 N1)
def tb_re_readAll : List (Nat × Instr × Nat) := [(0, .aload_n 0, 1), (1, .aload_n 1, 1), (2, .putfield 9, 3), (5, .aload_n 0, 1), (6, .iload_n 2, 1), (7, .aload_n 1, 1), (8, .arraylength, 1), (9, .invokestatic 58, 3), (12, .putfield 15, 3), (15, .aload_n 0, 1), (16, .iconst 0, 1), (17, .putfield 19, 3), (20, .aload_n 0, 1), (21, .iconst 0, 1), (22, .putfield 31, 3), (25, .aload_n 0, 1), (26, .iconst (-1), 1), (27, .putfield 34, 3), (30, .aload_n 0, 1), (31, .new 37, 3), (34, .dup, 1), (35, .invokespecial 39, 3), (38, .putfield 40, 3), (41, .aload_n 0, 1), (42, .invokevirtual 64, 3), (45, .aload_n 0, 1), (46, .ldc 67, 2), (48, .invokevirtual 69, 3), (51, .aload_n 0, 1), (52, .ldc 73, 2), (54, .invokevirtual 69, 3), (57, .aload_n 0, 1), (58, .getfield 40, 3), (61, .aload_n 0, 1), (62, .bipush 9, 2), (64, .invokevirtual 75, 3), (67, .putfield 79, 3), (70, .aload_n 0, 1), (71, .bipush 59, 2), (73, .invokevirtual 81, 3), (76, .aload_n 0, 1), (77, .getfield 40, 3), (80, .iconst 1, 1), (81, .putfield 85, 3), (84, .iconst 0, 1), (85, .istore_n 3, 1), (86, .iload_n 3, 1), (87, .sipush 900, 3), (90, .if_icmp .ge 39, 3), (93, .aload_n 0, 1), (94, .getfield 25, 3), (97, .ifCond .eq 32, 3), (100, .aload_n 0, 1), (101, .invokevirtual 88, 3), (104, .aload_n 0, 1), (105, .bipush 59, 2), (107, .invokevirtual 81, 3), (110, .aload_n 0, 1), (111, .getfield 40, 3), (114, .dup, 1), (115, .getfield 85, 3), (118, .iconst 1, 1), (119, .iadd, 1), (120, .putfield 85, 3), (123, .iinc 3 1, 3), (126, .goto (-40), 3), (129, .aload_n 0, 1), (130, .getfield 40, 3), (133, .areturn, 1)]
theorem tk_re_readAll : ∀ q ∈ tb_re_readAll, decode M_re_readAll.2.1 q.1 = .ok q.2 := by decide +kernel
theorem LA_readAll {G : ab_G} {S : ab_S} {tp : Nat → Nat} (hx : xSh S) (kc : kSh S.1) (hB : bT S tp) (h145 : 145 ≤ sn S) {n : Nat} (hn9 : n ≤ 900) (h12 : ∃ N, N ≤ 900 ∧ sI S 72 12 = nI N) {F : Nat → Int32} (hF0 : ∀ j, j < 1084 → F j = 0) : ab_C G 102 M_re_readAll [.ref 72, .ref 51, .int (nI n)] (sw S) (raQ S tp n (trn tp n F)) := by
  refine x_enter [some (.ref 72), some (.ref 51), some (.int (nI n)), none] (by decide) (Nat.le_of_ble_eq_true rfl) rfl (fun v w' h => by obtain ⟨rfl, -⟩ := h; trivial) ?_
  obtain ⟨c, hcS⟩ : ∃ c, c = sn S := ⟨_, rfl⟩
  have hc145 : 145 ≤ c := by omega
  obtain ⟨N0, hN0, hN1⟩ := h12
  have dlp : ∀ (U1 : ab_S) (e : Nat × Nat) (i m z : Nat), i < 2 ^ 30 → raF S U1 m z → m ≤ 4 + n → z ≤ 29 + n → tD U1 n e c → trn tp n F = .inl e → ab_Ex G 102 M_re_readAll 86 [some (.ref 72), some (.ref 51), some (.int (nI n)), some (.int (nI i))] [] (sw U1) (raQ S tp n (trn tp n F)) := by
    intro U1 e i m z hi hr hm hz uT1 hsp
    have uF1 : tF c S S := tF.rf
    obtain ⟨rr1, hr1⟩ := uT1.2.2.2.1
    obtain ⟨ss1, hs1⟩ := uT1.2.2.2.2.1
    obtain ⟨ww1, hw1⟩ := uT1.2.2.2.2.2
    refine x_iload_n 87 3 (ab_dd tk_re_readAll 46 rfl) rfl rfl rfl ?_
    refine x_sipush 90 900 (ab_dd tk_re_readAll 47 rfl) rfl (by decide) (x_topn 900 rfl ?_)
    refine xn_icmp_ge 93 129 (ab_dd tk_re_readAll 48 rfl) rfl (by decide) (by omega) (by omega) (fun h90 => ?_) (fun h90 => ?_)
    · refine x_aload_n 130 0 (ab_dd tk_re_readAll 66 rfl) rfl rfl rfl ?_
      refine t_getP 133 c (ab_dd tk_re_readAll 67 rfl) rfl F_re_40 (by decide) (Nat.lt_of_lt_of_le (by decide) uT1.1.1.1) (uT1.1.1.2.1 22 (by decide)) rfl uT1.2.1 ?_
      exact x_aret (ab_dd tk_re_readAll 68 rfl) ⟨by rw [hcS], U1, m, z, rfl, hr, hm, hz, by rw [hsp]; exact uT1.1⟩
    · refine x_aload_n 94 0 (ab_dd tk_re_readAll 49 rfl) rfl rfl rfl ?_
      refine t_getI 97 (ab_dd tk_re_readAll 50 rfl) rfl F_re_25 (by decide) (Nat.lt_of_lt_of_le (by decide) uT1.1.1.1) (uT1.1.1.2.1 22 (by decide)) rfl (x_topn 0 uT1.1.2.2.2.2.2.2.1 ?_)
      refine x_if_eq_t 129 (ab_dd tk_re_readAll 51 rfl) (by decide) ((nI_eq (a := 0) (b := 0) (by omega) (by omega)).mpr (show 0 = 0 by rfl)) ?_
      refine x_aload_n 130 0 (ab_dd tk_re_readAll 66 rfl) rfl rfl rfl ?_
      refine t_getP 133 c (ab_dd tk_re_readAll 67 rfl) rfl F_re_40 (by decide) (Nat.lt_of_lt_of_le (by decide) uT1.1.1.1) (uT1.1.1.2.1 22 (by decide)) rfl uT1.2.1 ?_
      exact x_aret (ab_dd tk_re_readAll 68 rfl) ⟨by rw [hcS], U1, m, z, rfl, hr, hm, hz, by rw [hsp]; exact uT1.1⟩
  have lp : ∀ (g : Nat) (U1 : ab_S) (q i m z r N1 : Nat) (Fx : Nat → Int32), raF S U1 m z → m ≤ 3 + q → z ≤ 29 + q → tL U1 tp n q c Fx r r → tW U1 c Fx N1 → N1 ≤ q → i ≤ q → n - q < g → trn tp n F = trL tp n g q Fx → ab_Ex G 102 M_re_readAll 86 [some (.ref 72), some (.ref 51), some (.int (nI n)), some (.int (nI i))] [] (sw U1) (raQ S tp n (trn tp n F)) := by
    intro g
    induction g with
    | zero => intro U1 q i m z r N1 Fx _ _ _ _ _ _ _ y; exact absurd y (by omega)
    | succ g ih =>
      intro U1 q i m z r N1 Fx hr hm hz uT1 hW1 hNq hiq hg hsp0
      have uF1 : tF c U1 U1 := tF.rf
      have hq := uT1.1.2.2.2.2.2.2.1
      have hgap := tK_gap tp n q
      obtain ⟨ck0, ck1, ck2, ck3, ck4⟩ := ckd_i (tK tp n q) hgap
      have ckl := ckd_lt (tK tp n q)
      have hq42 := tK_lt tp n q
      have hend : 900 ≤ q → tK tp n q = 24 := fun z => tK_e (Nat.le_trans (by omega) (tS_b tp hq).1)
      have hun : trL tp n (g + 1) q Fx = if tK tp n q = 24 then .inr (q, Fx) else lB (lnr tp n q Fx) (fun q F => lB (cls tp n q F) (fun q F => trL tp n g q F)) := rfl
      refine x_iload_n 87 3 (ab_dd tk_re_readAll 46 rfl) rfl rfl rfl ?_
      refine x_sipush 90 900 (ab_dd tk_re_readAll 47 rfl) rfl (by decide) (x_topn 900 rfl ?_)
      refine xn_icmp_ge 93 129 (ab_dd tk_re_readAll 48 rfl) rfl (by decide) (by omega) (by omega) (fun h90 => ?_) (fun h90 => ?_)
      · refine x_aload_n 130 0 (ab_dd tk_re_readAll 66 rfl) rfl rfl rfl ?_
        refine t_getP 133 c (ab_dd tk_re_readAll 67 rfl) rfl F_re_40 (by decide) (Nat.lt_of_lt_of_le (by decide) uT1.1.1.1) (uT1.1.1.2.1 22 (by decide)) rfl uT1.2.1 ?_
        have h24 := hend (by omega)
        have hsp : trn tp n F = .inr (q, Fx) := by
          rw [hsp0, hun, if_pos (by omega)]
        exact x_aret (ab_dd tk_re_readAll 68 rfl) ⟨by rw [hcS], U1, m, z, rfl, hr, by omega, by omega, by rw [hsp, ← hcS]; exact ⟨r, N1, uT1, hW1⟩⟩
      · refine x_aload_n 94 0 (ab_dd tk_re_readAll 49 rfl) rfl rfl rfl ?_
        refine t_getI 97 (ab_dd tk_re_readAll 50 rfl) rfl F_re_25 (by decide) (Nat.lt_of_lt_of_le (by decide) uT1.1.1.1) (uT1.1.1.2.1 22 (by decide)) rfl (x_topn (ckd (tK tp n q)) uT1.1.2.2.2.2.2.2.2.1.2.2.1 ?_)
        refine xn_if_eq 100 129 (ab_dd tk_re_readAll 51 rfl) rfl (by decide) (by omega) (fun h97 => ?_) (fun h97 => ?_)
        · refine x_aload_n 130 0 (ab_dd tk_re_readAll 66 rfl) rfl rfl rfl ?_
          refine t_getP 133 c (ab_dd tk_re_readAll 67 rfl) rfl F_re_40 (by decide) (Nat.lt_of_lt_of_le (by decide) uT1.1.1.1) (uT1.1.1.2.1 22 (by decide)) rfl uT1.2.1 ?_
          have hsp : trn tp n F = .inr (q, Fx) := by
            rw [hsp0, hun, if_pos (by omega)]
          exact x_aret (ab_dd tk_re_readAll 68 rfl) ⟨by rw [hcS], U1, m, z, rfl, hr, by omega, by omega, by rw [hsp, ← hcS]; exact ⟨r, N1, uT1, hW1⟩⟩
        · refine x_aload_n 101 0 (ab_dd tk_re_readAll 52 rfl) rfl rfl rfl ?_
          refine t_callV 104 M_re_readLine 101 0 [] (ab_dd tk_re_readAll 53 rfl) rfl (by first | decide | omega) K_re_readLine V_re_readLine.1 V_re_readLine.2 L_re_88 rfl (Nat.le_of_ble_eq_true rfl) (by decide) (Nat.lt_of_lt_of_le (by decide) uT1.1.1.1) (uT1.1.1.2.1 22 (by decide)) rfl (LA_readLine uT1 hW1 hNq) (fun v1 w1 h1 => ?_)
          obtain ⟨rfl, U2, m2, z2, rfl, uE2, hm2, uO2⟩ := h1
          have hRA2 := hr.l (by rw [← hcS]; exact uE2) (by omega)
          have uF2 : tF c U2 U2 := tF.rf
          rcases hX : lnr tp n q Fx with e2 | ⟨q2, F2⟩
          · rw [hX] at uO2
            obtain ⟨uT2, hz2⟩ := uO2
            obtain ⟨rr2, hr2⟩ := uT2.2.2.2.1
            obtain ⟨ss2, hs2⟩ := uT2.2.2.2.2.1
            obtain ⟨ww2, hw2⟩ := uT2.2.2.2.2.2
            refine x_aload_n 105 0 (ab_dd tk_re_readAll 54 rfl) rfl rfl rfl ?_
            refine x_bipush 107 59 (ab_dd tk_re_readAll 55 rfl) rfl (by decide) (x_topn 59 rfl ?_)
            refine t_callV 110 M_re_needSign 6 1 [_] (ab_dd tk_re_readAll 56 rfl) rfl (by first | decide | omega) K_re_needSign V_re_needSign.1 V_re_needSign.2 L_re_81 rfl (Nat.le_of_ble_eq_true rfl) (by decide) (Nat.lt_of_lt_of_le (by decide) uT2.1.1.1) (uT2.1.1.2.1 22 (by decide)) rfl (DA_needSign uT2.1 _) (fun v1 w1 h1 => ?_)
            obtain ⟨rfl, U3, rfl, uG3, uD3⟩ := h1
            have uT3 : tD U3 n e2 c := uT2.g uG3 uD3
            have uF3 : tF c U2 U3 := uF2.tr (tF.g uG3)
            obtain ⟨rr3, hr3⟩ := uT3.2.2.2.1
            obtain ⟨ss3, hs3⟩ := uT3.2.2.2.2.1
            obtain ⟨ww3, hw3⟩ := uT3.2.2.2.2.2
            refine x_aload_n 111 0 (ab_dd tk_re_readAll 57 rfl) rfl rfl rfl ?_
            refine t_getP 114 c (ab_dd tk_re_readAll 58 rfl) rfl F_re_40 (by decide) (Nat.lt_of_lt_of_le (by decide) uT3.1.1.1) (uT3.1.1.2.1 22 (by decide)) rfl uT3.2.1 ?_
            refine x_dup 115 (ab_dd tk_re_readAll 59 rfl) rfl rfl ?_
            refine t_getI 118 (ab_dd tk_re_readAll 60 rfl) rfl F_re_85 (by omega) (Nat.lt_of_le_of_lt (Nat.le_add_right c 2) uT3.2.2.1.2.1) uT3.2.2.1.2.2.1 rfl ?_
            refine x_iconst 119 1 (ab_dd tk_re_readAll 61 rfl) rfl (by decide) (x_topn 1 rfl ?_)
            refine x_iadd 120 (ab_dd tk_re_readAll 62 rfl) rfl ?_
            refine t_putI 123 (ab_dd tk_re_readAll 63 rfl) rfl F_re_85 (by omega) (Nat.lt_of_le_of_lt (Nat.le_add_right c 2) uT3.2.2.1.2.1) uT3.2.2.1.2.2.1 rfl rfl rfl ?_
            obtain ⟨U4, hU4⟩ : ∃ U4, U4 = pI U3 c 1 (sI U3 c 1 + nI 1) := ⟨_, rfl⟩
            rw [← hU4]
            have uF4 : tF c U2 U4 := uF3.tr (by rw [hU4]; exact tF.p (by omega) (by omega))
            have uT4 : tD U4 n e2 c := by rw [hU4]; exact uT3.puto (Or.inl rfl)
            obtain ⟨rr4, hr4⟩ := uT4.2.2.2.1
            obtain ⟨ss4, hs4⟩ := uT4.2.2.2.2.1
            obtain ⟨ww4, hw4⟩ := uT4.2.2.2.2.2
            refine xn_iinc 126 3 (fun y => [some (.ref 72), some (.ref 51), some (.int (nI n)), some (.int y)]) (i + 1) (ab_dd tk_re_readAll 64 rfl) rfl (by decide) rfl (fun _ => rfl) (iinc_p 1) ?_
            refine x_goto 86 (ab_dd tk_re_readAll 65 rfl) (by decide) ?_
            exact dlp U4 _ (i + 1) _ _ (by omega) (hRA2.l (by rw [← hcS]; exact lF.t uF4) (by omega)) (by omega) (by omega) uT4 (by
              rw [hsp0, hun, if_neg (by omega), hX]
              rfl)
          · rw [hX] at uO2
            obtain ⟨⟨r2, N2, uT2, hW2, hN2⟩, hq2, hz2⟩ := uO2
            have uT2 : tL U2 tp n q2 c F2 r2 r2 := uT2
            have hq2 : q < q2 := hq2
            have hz2 : q + z2 ≤ q2 := hz2
            have hN2 : N2 ≤ q2 := hN2
            have hrr := uT2.2.2.2.1.2.2.2.2.2.2.2.1
            have hq2n : q2 ≤ n := uT2.1.2.2.2.2.2.2.1
            refine x_aload_n 105 0 (ab_dd tk_re_readAll 54 rfl) rfl rfl rfl ?_
            refine x_bipush 107 59 (ab_dd tk_re_readAll 55 rfl) rfl (by decide) (x_topn 59 rfl ?_)
            refine t_callV 110 M_re_needSign 6 1 [_] (ab_dd tk_re_readAll 56 rfl) rfl (by first | decide | omega) K_re_needSign V_re_needSign.1 V_re_needSign.2 L_re_81 rfl (Nat.le_of_ble_eq_true rfl) (by decide) (Nat.lt_of_lt_of_le (by decide) uT2.1.1.1) (uT2.1.1.2.1 22 (by decide)) rfl (LA_nsg uT2.1 0 59 (by decide) (by decide)) (fun v1 w1 h1 => ?_)
            obtain ⟨rfl, U5, rfl, uG5, uO5⟩ := h1
            have uF5 : tF c U2 U5 := uF2.tr (tF.g uG5)
            rcases uO5 with ⟨hk5, uL5⟩ | ⟨hk5, uD5⟩
            · have ht5 := tE_g uT2.1.2.2.2.2.2.2.1 (show tK tp n q2 ≠ 24 by omega)
              have uT5 := uT2.g uG5 uL5
              refine x_aload_n 111 0 (ab_dd tk_re_readAll 57 rfl) rfl rfl rfl ?_
              refine t_getP 114 c (ab_dd tk_re_readAll 58 rfl) rfl F_re_40 (by decide) (Nat.lt_of_lt_of_le (by decide) uT5.1.1.1) (uT5.1.1.2.1 22 (by decide)) rfl uT5.2.1 ?_
              refine x_dup 115 (ab_dd tk_re_readAll 59 rfl) rfl rfl ?_
              refine t_getI 118 (ab_dd tk_re_readAll 60 rfl) rfl F_re_85 (by omega) (Nat.lt_of_le_of_lt (Nat.le_add_right c 2) uT5.2.2.1.2.1) uT5.2.2.1.2.2.1 rfl (x_topx (F2 0) uT5.2.2.2.1.1 ?_)
              refine x_iconst 119 1 (ab_dd tk_re_readAll 61 rfl) rfl (by decide) (x_topn 1 rfl ?_)
              refine x_iadd 120 (ab_dd tk_re_readAll 62 rfl) rfl ?_
              refine t_putI 123 (ab_dd tk_re_readAll 63 rfl) rfl F_re_85 (by omega) (Nat.lt_of_le_of_lt (Nat.le_add_right c 2) uT5.2.2.1.2.1) uT5.2.2.1.2.2.1 rfl rfl rfl ?_
              obtain ⟨U6, hU6⟩ : ∃ U6, U6 = pI U5 c 1 (F2 0 + nI 1) := ⟨_, rfl⟩
              rw [← hU6]
              have uF6 : tF c U2 U6 := uF5.tr (by rw [hU6]; exact tF.p (by omega) (by omega))
              have uT6 : tL U6 tp n (tE tp n q2) c (up1 F2 0 (F2 0 + 1)) r2 r2 := by rw [hU6]; exact uT5.lin
              refine xn_iinc 126 3 (fun y => [some (.ref 72), some (.ref 51), some (.int (nI n)), some (.int y)]) (i + 1) (ab_dd tk_re_readAll 64 rfl) rfl (by decide) rfl (fun _ => rfl) (iinc_p 1) ?_
              refine x_goto 86 (ab_dd tk_re_readAll 65 rfl) (by decide) ?_
              exact ih U6 _ (i + 1) _ _ _ N2 _ (hRA2.l (by rw [← hcS]; exact lF.t uF6) (by omega)) (by omega) (by omega) uT6 (hW2.tf hc145 uF6 (fun j hj => up1_o (by omega))) (by omega) (by omega) (by omega) (by
                rw [hsp0, hun, if_neg (by omega), hX]
                rw [lB_r]
                unfold cls wX
                rw [if_pos hk5]
                rfl)
            · have uT5 := uT2.die (by omega) uG5 uD5
              obtain ⟨rr5, hr5⟩ := uT5.2.2.2.1
              obtain ⟨ss5, hs5⟩ := uT5.2.2.2.2.1
              obtain ⟨ww5, hw5⟩ := uT5.2.2.2.2.2
              refine x_aload_n 111 0 (ab_dd tk_re_readAll 57 rfl) rfl rfl rfl ?_
              refine t_getP 114 c (ab_dd tk_re_readAll 58 rfl) rfl F_re_40 (by decide) (Nat.lt_of_lt_of_le (by decide) uT5.1.1.1) (uT5.1.1.2.1 22 (by decide)) rfl uT5.2.1 ?_
              refine x_dup 115 (ab_dd tk_re_readAll 59 rfl) rfl rfl ?_
              refine t_getI 118 (ab_dd tk_re_readAll 60 rfl) rfl F_re_85 (by omega) (Nat.lt_of_le_of_lt (Nat.le_add_right c 2) uT5.2.2.1.2.1) uT5.2.2.1.2.2.1 rfl ?_
              refine x_iconst 119 1 (ab_dd tk_re_readAll 61 rfl) rfl (by decide) (x_topn 1 rfl ?_)
              refine x_iadd 120 (ab_dd tk_re_readAll 62 rfl) rfl ?_
              refine t_putI 123 (ab_dd tk_re_readAll 63 rfl) rfl F_re_85 (by omega) (Nat.lt_of_le_of_lt (Nat.le_add_right c 2) uT5.2.2.1.2.1) uT5.2.2.1.2.2.1 rfl rfl rfl ?_
              obtain ⟨U7, hU7⟩ : ∃ U7, U7 = pI U5 c 1 (sI U5 c 1 + nI 1) := ⟨_, rfl⟩
              rw [← hU7]
              have uF7 : tF c U2 U7 := uF5.tr (by rw [hU7]; exact tF.p (by omega) (by omega))
              have uT7 : tD U7 n (pE tp n q2 2) c := by rw [hU7]; exact uT5.puto (Or.inl rfl)
              obtain ⟨rr7, hr7⟩ := uT7.2.2.2.1
              obtain ⟨ss7, hs7⟩ := uT7.2.2.2.2.1
              obtain ⟨ww7, hw7⟩ := uT7.2.2.2.2.2
              refine xn_iinc 126 3 (fun y => [some (.ref 72), some (.ref 51), some (.int (nI n)), some (.int y)]) (i + 1) (ab_dd tk_re_readAll 64 rfl) rfl (by decide) rfl (fun _ => rfl) (iinc_p 1) ?_
              refine x_goto 86 (ab_dd tk_re_readAll 65 rfl) (by decide) ?_
              exact dlp U7 _ (i + 1) _ _ (by omega) (hRA2.l (by rw [← hcS]; exact lF.t uF7) (by omega)) (by omega) (by omega) uT7 (by
                rw [hsp0, hun, if_neg (by omega), hX]
                rw [lB_r]
                unfold cls wX
                rw [if_neg hk5]
                rfl)
  refine x_aload_n 1 0 (ab_dd tk_re_readAll 0 rfl) rfl rfl rfl ?_
  refine x_aload_n 2 1 (ab_dd tk_re_readAll 1 rfl) rfl rfl rfl ?_
  refine t_putP 5 (ab_dd tk_re_readAll 2 rfl) rfl F_re_9 (by decide) (Nat.lt_of_lt_of_le (by decide) hx.1) (hx.2.1 22 (by decide)) rfl ?_
  refine x_aload_n 6 0 (ab_dd tk_re_readAll 3 rfl) rfl rfl rfl ?_
  refine x_iload_n 7 2 (ab_dd tk_re_readAll 4 rfl) rfl rfl rfl ?_
  refine x_aload_n 8 1 (ab_dd tk_re_readAll 5 rfl) rfl rfl rfl ?_
  refine t_alen 9 1 (ab_dd tk_re_readAll 6 rfl) rfl (by decide) (Nat.lt_of_lt_of_le (by decide) hx.1) rfl (hx.2.1 1 (by decide)) ?_
  refine x_callS 12 M_jM_min 0 2 [_, _] (ab_dd tk_re_readAll 7 rfl) rfl (by first | decide | omega) K_jM_min T_jM_min L_re_58 rfl (Nat.le_of_ble_eq_true rfl) (w_min _ n 900 (by omega) (by decide)) (fun v1 w1 h1 => ?_)
  obtain ⟨rfl, rfl⟩ := h1
  rw [if_pos hn9]
  refine t_putI 15 (ab_dd tk_re_readAll 8 rfl) rfl F_re_15 (by decide) (Nat.lt_of_lt_of_le (by decide) hx.1) (hx.2.1 22 (by decide)) rfl rfl rfl ?_
  refine x_aload_n 16 0 (ab_dd tk_re_readAll 9 rfl) rfl rfl rfl ?_
  refine x_iconst 17 0 (ab_dd tk_re_readAll 10 rfl) rfl (by decide) (x_topn 0 rfl ?_)
  refine t_putI 20 (ab_dd tk_re_readAll 11 rfl) rfl F_re_19 (by decide) (Nat.lt_of_lt_of_le (by decide) hx.1) (hx.2.1 22 (by decide)) rfl rfl rfl ?_
  refine x_aload_n 21 0 (ab_dd tk_re_readAll 12 rfl) rfl rfl rfl ?_
  refine x_iconst 22 0 (ab_dd tk_re_readAll 13 rfl) rfl (by decide) (x_topn 0 rfl ?_)
  refine t_putI 25 (ab_dd tk_re_readAll 14 rfl) rfl F_re_31 (by decide) (Nat.lt_of_lt_of_le (by decide) hx.1) (hx.2.1 22 (by decide)) rfl rfl rfl ?_
  refine x_aload_n 26 0 (ab_dd tk_re_readAll 15 rfl) rfl rfl rfl ?_
  refine x_iconst 27 (-1) (ab_dd tk_re_readAll 16 rfl) rfl (by decide) ?_
  refine t_putI 30 (ab_dd tk_re_readAll 17 rfl) rfl F_re_34 (by decide) (Nat.lt_of_lt_of_le (by decide) hx.1) (hx.2.1 22 (by decide)) rfl rfl rfl ?_
  obtain ⟨S5, hS5⟩ : ∃ S5, S5 = (pI (pI (pI (pI (pP S 72 0 (some 51)) 72 1 (nI n)) 72 2 (nI 0)) 72 6 (nI 0)) 72 7 (-1)) := ⟨_, rfl⟩
  rw [← hS5]
  have hx5 : xSh S5 := by rw [hS5]; exact hx.r72 (Or.inl rfl)
  have hn5 : sn S5 = sn S := by rw [hS5]; rfl
  have h505 : 50 ≤ sn S5 := by omega
  have hi5 : ∀ b, b ≠ 72 → sI S5 b = sI S b ∧ sJ S5 b = sJ S b ∧ sP S5 b = sP S b := fun b hb => by rw [hS5]; exact ⟨(gI_o hb).trans ((gI_o hb).trans ((gI_o hb).trans (gI_o hb))), rfl, gP_o hb⟩
  have hp5 : ∀ k, k ≠ 0 → sP S5 72 k = sP S 72 k := fun k hk => by rw [hS5]; exact gP_k hk
  have hp50 : sP S5 72 0 = some 51 := by rw [hS5]; exact gP_s
  have hv1 : sI S5 72 1 = nI n := by rw [hS5]; exact (gI_k (by decide)).trans ((gI_k (by decide)).trans ((gI_k (by decide)).trans gI_s))
  have hv2 : sI S5 72 2 = nI 0 := by rw [hS5]; exact (gI_k (by decide)).trans ((gI_k (by decide)).trans gI_s)
  have hv6 : sI S5 72 6 = nI 0 := by rw [hS5]; exact (gI_k (by decide)).trans gI_s
  have hv7 : sI S5 72 7 = -1 := by rw [hS5]; exact gI_s
  have hv12 : sI S5 72 12 = nI N0 := by rw [hS5]; exact (gI_k (by decide)).trans ((gI_k (by decide)).trans ((gI_k (by decide)).trans ((gI_k (by decide)).trans hN1)))
  have hk5 : sK S5 = sK S := by rw [hS5]; rfl
  have h15 : S5.1 = S.1 := by rw [hS5]; rfl
  have hz5 : sz S5 = sz S := by rw [hS5]; rfl
  have h725 : 72 < sn S5 := by omega
  refine x_aload_n 31 0 (ab_dd tk_re_readAll 18 rfl) rfl rfl rfl ?_
  refine t_newO (ci := 0) 34 (ab_dd tk_re_readAll 19 rfl) rfl (show 50 ≤ sn S5 + 0 by omega) rfl Q_re_37 N_ca.1 N_ca.2 ?_
  refine x_dup 35 (ab_dd tk_re_readAll 20 rfl) rfl rfl ?_
  refine x_callI 38 M_ca_init 1 0 [] (ab_dd tk_re_readAll 21 rfl) rfl (by first | decide | omega) K_ca_init rfl rfl V_ca_init L_re_39 rfl (Nat.le_of_ble_eq_true rfl) (c_ca_init (S := pN S5 (.inr 0) 9) (a := sn S5) (by show 50 ≤ sn S5 + 1; omega) (by omega) (Nat.lt_succ_self _) up1_s) (fun v1 w1 h1 => ?_)
  obtain ⟨rfl, S6, rfl, hN6, p5, p6, p7, p8, k1, k2, z1, z2, v0, v1, v2, v3, v4⟩ := h1
  have g6 : grE S5 S6 (1 + 2) (9 + (0 + 4 + 16)) := grE.of hN6
  have hx6 : xSh S6 := hx5.gr g6
  refine t_putP 41 (ab_dd tk_re_readAll 22 rfl) rfl F_re_40 (by decide) (Nat.lt_of_lt_of_le (by decide) hx6.1) (hx6.2.1 22 (by decide)) rfl ?_
  obtain ⟨S7, hS7⟩ : ∃ S7, S7 = pP S6 72 8 (some (sn S5)) := ⟨_, rfl⟩
  rw [← hS7]
  have hx7 : xSh S7 := by rw [hS7]; exact hx6.r72 (Or.inr rfl)
  have hn7 : sn S7 = sn S + 3 := by rw [hS7]; show sn S6 = _; have := g6.2.1; omega
  have h17 : S7.1 = S.1 := by rw [hS7]; exact g6.1.trans h15
  have ho7 : ∀ b, b < sn S → sK S7 b = sK S b ∧ sI S7 b = sI S5 b ∧ sJ S7 b = sJ S5 b := fun b hb => by
    rw [hS7]
    obtain ⟨y1, y2, y3, y4⟩ := g6.2.2.2 b (by omega)
    exact ⟨y1.trans (by rw [hk5]), y2, y3⟩
  have hq7 : ∀ b, b < sn S → b ≠ 72 → sP S7 b = sP S b := fun b hb hne => by
    rw [hS7, gP_o hne, (g6.2.2.2 b (by omega)).2.2.2]
    exact (hi5 b hne).2.2
  have h727 := ho7 72 (by omega)
  have hp7 : ∀ k, k ≠ 8 → sP S7 72 k = sP S5 72 k := fun k hk => by rw [hS7, gP_k hk, (g6.2.2.2 72 (by omega)).2.2.2]
  have hRA7 : raF S S7 3 29 := ⟨h17, hn7, by rw [hS7]; show sz S6 = _; have := g6.2.2.1; omega, fun b hb => (ho7 b hb).1, hq7, fun k k0 k8 => (hp7 k k8).trans (hp5 k k0), fun b hb b1 b2 => ⟨(ho7 b hb).2.1.trans (hi5 b b1).1, (ho7 b hb).2.2.trans (hi5 b b1).2.1⟩⟩
  have hc5 : sn S5 = c := by omega
  have e1 : sn (pN S5 (.inr 0) 9) = c + 1 := by show sn S5 + 1 = c + 1; omega
  rw [e1] at p5 p6 k1 k2 z1 z2
  rw [hc5] at p5 p6 p7 p8 v0 v1 v2 v3 v4 hS7
  have kc7 : kSh S7.1 := by rw [h17]; exact kc
  have hK7 : tcK S7 c := by
    refine ⟨hc145, by omega, ?_, ?_, ?_, ?_, ?_⟩
    · rw [hS7]; show sK S6 c = _
      rw [hN6.2.2.2.1 c (by rw [e1]; omega)]
      show up1 (sK S5) (sn S5) (.inr 0) c = _
      rw [hc5, up1_s]
    · rw [hS7]; exact k1
    · rw [hS7]; exact k2
    · rw [hS7, gP_o (by omega)]; exact p5
    · rw [hS7, gP_o (by omega)]; exact p6
  have hz : ∀ j, j < 1084 → cN (F j) = 0 := fun j hj => by rw [hF0 j hj]; rfl
  have hV7 : tcV S7 c F 0 := by
    have hs : seaC F = 0 := by
      show cN (F (28 + 0)) + 4 * cN (F (28 + 1)) + 16 * cN (F (28 + 2)) + 64 * cN (F (28 + 3)) = 0
      rw [hz (28 + 0) (by decide), hz (28 + 1) (by decide), hz (28 + 2) (by decide), hz (28 + 3) (by decide)]
    have hw : wC F = 0 := by
      unfold wC
      rw [hz 32 (by decide), hz 33 (by decide), hz 34 (by decide), hz 35 (by decide)]
    refine ⟨?_, ?_, ?_, ?_, fun i hi => ?_, fun j hj => ?_, by rw [hF0 1 (by decide)]; rfl, by decide, fun i hi => ⟨0, by rw [hF0 _ (by omega)]; rfl, by decide⟩, fun i hi => ⟨0, by rw [hF0 _ (by omega)]; rfl, by decide⟩⟩
    · rw [hS7, hF0 0 (by decide)]; exact v1
    · rw [hS7, hF0 40 (by decide)]; exact v2
    · rw [hS7, hs]; exact v3
    · rw [hS7, hw]; exact v4
    · rw [hS7, hF0 _ (by omega)]; show sI S6 (c + 1) i = 0; rw [z1]
    · rw [hS7, hF0 _ (by omega)]; show sI S6 (c + 1 + 1) j = 0; rw [z2]
  have hW7 : tW S7 c F 0 := by
    refine ⟨by rw [hF0 183 (by decide)]; rfl, by decide, Or.inl ⟨hF0 _ (by decide), ?_⟩, Or.inl ⟨hF0 _ (by decide), ?_⟩⟩
    · rw [hS7, gP_o (by omega)]; exact p7
    · rw [hS7, gP_o (by omega)]; exact p8
  have hB7 : bT S7 tp := by
    unfold bT
    rw [(ho7 51 (by omega)).2.1, (hi5 51 (by decide)).1]; exact hB
  have ht7 : sP S7 72 0 = some 51 := (hp7 0 (by decide)).trans hp50
  have h1n7 : sI S7 72 1 = nI n := by rw [h727.2.1]; exact hv1
  have h2p7 : sI S7 72 2 = nI 0 := by rw [h727.2.1]; exact hv2
  have h87 : sP S7 72 8 = some c := by rw [hS7]; exact gP_s
  have h07 : sI S7 c 0 = nI 0 := by rw [hS7]; exact v0
  refine x_aload_n 42 0 (ab_dd tk_re_readAll 23 rfl) rfl rfl rfl ?_
  refine t_callV 45 M_re_advance 5 0 [] (ab_dd tk_re_readAll 24 rfl) rfl (by first | decide | omega) K_re_advance V_re_advance.1 V_re_advance.2 L_re_64 rfl (Nat.le_of_ble_eq_true rfl) (by decide) (Nat.lt_of_lt_of_le (by decide) hx7.1) (hx7.2.1 22 (by decide)) rfl (c_re_advance hx7 kc7 hB7 hn9 ht7 h1n7 0 (Nat.zero_le _) h2p7) (fun v1 w1 h1 => ?_)
  obtain ⟨rfl, U1, rfl, hE8, hT8, hfr8⟩ := h1
  have uG1 : qG S7 U1 := ⟨hE8, fun j hj => hfr8 j (by omega)⟩
  have uL1 : qLv U1 tp n 0 := ⟨hx7.eq hE8, by rw [hE8.1]; exact kc7, hB7.eq hE8 (by decide), hn9, by rw [hE8.2.2.2.2.1]; exact ht7, (hfr8 1 (by omega)).trans h1n7, Nat.zero_le _, hT8, ⟨(hfr8 6 (by omega)).trans (by rw [h727.2.1]; exact hv6), (hfr8 7 (by omega)).trans (by rw [h727.2.1]; exact hv7)⟩, N0, hN0, (hfr8 12 (by omega)).trans (by rw [h727.2.1]; exact hv12)⟩
  have hn72 : ∀ b, 145 ≤ b → b ∉ [72] := fun b hb => by rw [List.mem_singleton]; omega
  have uT1 : tL U1 tp n 0 c F 0 0 := ⟨uL1, by rw [hE8.2.2.2.2.1]; exact h87, hK7.eq hE8, hV7.eq hE8 (hn72 _ (by omega)) (hn72 _ (by omega)) (hn72 _ (by omega)), by rw [hE8.2.2.1 c (hn72 _ (by omega))]; exact h07⟩
  have uF1 : tF c S7 U1 := tF.g uG1
  refine x_aload_n 46 0 (ab_dd tk_re_readAll 25 rfl) rfl rfl rfl ?_
  refine x_ldcS 48 1 (ab_dd tk_re_readAll 26 rfl) rfl (by decide) (List.mem_of_getElem? (i := 1) rfl) ?_
  refine t_callV 51 M_re_needWord 6 1 [_] (ab_dd tk_re_readAll 27 rfl) rfl (by first | decide | omega) K_re_needWord V_re_needWord.1 V_re_needWord.2 L_re_69 rfl (Nat.le_of_ble_eq_true rfl) (by decide) (Nat.lt_of_lt_of_le (by decide) uT1.1.1.1) (uT1.1.1.2.1 22 (by decide)) rfl (LA_needWord uT1.1 0 1 (by decide) rfl) (fun v1 w1 h1 => ?_)
  obtain ⟨rfl, U2, rfl, uG2, uO2⟩ := h1
  have uF2 : tF c S7 U2 := uF1.tr (tF.g uG2)
  rcases uO2 with ⟨hk2, uL2⟩ | ⟨hk2, uD2⟩
  · have ht2 := tE_g uT1.1.2.2.2.2.2.2.1 (show tK tp n 0 ≠ 24 by omega)
    have uT2 := uT1.g uG2 uL2
    refine x_aload_n 52 0 (ab_dd tk_re_readAll 28 rfl) rfl rfl rfl ?_
    refine x_ldcS 54 2 (ab_dd tk_re_readAll 29 rfl) rfl (by decide) (List.mem_of_getElem? (i := 2) rfl) ?_
    refine t_callV 57 M_re_needWord 6 1 [_] (ab_dd tk_re_readAll 30 rfl) rfl (by first | decide | omega) K_re_needWord V_re_needWord.1 V_re_needWord.2 L_re_69 rfl (Nat.le_of_ble_eq_true rfl) (by decide) (Nat.lt_of_lt_of_le (by decide) uT2.1.1.1) (uT2.1.1.2.1 22 (by decide)) rfl (LA_needWord uT2.1 1 2 (by decide) rfl) (fun v1 w1 h1 => ?_)
    obtain ⟨rfl, U3, rfl, uG3, uO3⟩ := h1
    have uF3 : tF c S7 U3 := uF2.tr (tF.g uG3)
    rcases uO3 with ⟨hk3, uL3⟩ | ⟨hk3, uD3⟩
    · have ht3 := tE_g uT2.1.2.2.2.2.2.2.1 (show tK tp n (tE tp n 0) ≠ 24 by omega)
      have uT3 := uT2.g uG3 uL3
      refine x_aload_n 58 0 (ab_dd tk_re_readAll 31 rfl) rfl rfl rfl ?_
      refine t_getP 61 c (ab_dd tk_re_readAll 32 rfl) rfl F_re_40 (by decide) (Nat.lt_of_lt_of_le (by decide) uT3.1.1.1) (uT3.1.1.2.1 22 (by decide)) rfl uT3.2.1 ?_
      refine x_aload_n 62 0 (ab_dd tk_re_readAll 33 rfl) rfl rfl rfl ?_
      refine x_bipush 64 9 (ab_dd tk_re_readAll 34 rfl) rfl (by decide) (x_topn 9 rfl ?_)
      refine t_callV 67 M_re_needNumber 6 1 [_] (ab_dd tk_re_readAll 35 rfl) rfl (by first | decide | omega) K_re_needNumber V_re_needNumber.1 V_re_needNumber.2 L_re_75 rfl (Nat.le_of_ble_eq_true rfl) (by decide) (Nat.lt_of_lt_of_le (by decide) uT3.1.1.1) (uT3.1.1.2.1 22 (by decide)) rfl (LA_needNumber uT3.1 9 (by decide)) (fun v1 w1 h1 => ?_)
      obtain ⟨U4, rfl, uG4, uO4⟩ := h1
      have uF4 : tF c S7 U4 := uF3.tr (tF.g uG4)
      rcases hX4 : xN tp n 9 (tE tp n (tE tp n 0)) with e4 | ⟨q4, v4⟩
      · have hbs4 := (seaC_l uT3.2.2.2.1.2.2.2.2.2.2.2.2.1).1
        have hbw4 := (wC_l uT3.2.2.2.1.2.2.2.2.2.2.2.2.2).1
        rw [hX4] at uO4
        obtain ⟨uD4, rfl⟩ := uO4
        have uT4 := uT3.die (by omega) uG4 uD4
        obtain ⟨rr4, hr4⟩ := uT4.2.2.2.1
        obtain ⟨ss4, hs4⟩ := uT4.2.2.2.2.1
        obtain ⟨ww4, hw4⟩ := uT4.2.2.2.2.2
        refine t_putI 70 (ab_dd tk_re_readAll 36 rfl) rfl F_re_79 (by omega) (Nat.lt_of_le_of_lt (Nat.le_add_right c 2) uT4.2.2.1.2.1) uT4.2.2.1.2.2.1 rfl rfl rfl ?_
        obtain ⟨U5, hU5⟩ : ∃ U5, U5 = pI U4 c 2 (nI 0) := ⟨_, rfl⟩
        rw [← hU5]
        have uF5 : tF c S7 U5 := uF4.tr (by rw [hU5]; exact tF.p (by omega) (by omega))
        have uT5 : tD U5 n e4 c := by rw [hU5]; exact uT4.puto (by decide)
        obtain ⟨rr5, hr5⟩ := uT5.2.2.2.1
        obtain ⟨ss5, hs5⟩ := uT5.2.2.2.2.1
        obtain ⟨ww5, hw5⟩ := uT5.2.2.2.2.2
        refine x_aload_n 71 0 (ab_dd tk_re_readAll 37 rfl) rfl rfl rfl ?_
        refine x_bipush 73 59 (ab_dd tk_re_readAll 38 rfl) rfl (by decide) (x_topn 59 rfl ?_)
        refine t_callV 76 M_re_needSign 6 1 [_] (ab_dd tk_re_readAll 39 rfl) rfl (by first | decide | omega) K_re_needSign V_re_needSign.1 V_re_needSign.2 L_re_81 rfl (Nat.le_of_ble_eq_true rfl) (by decide) (Nat.lt_of_lt_of_le (by decide) uT5.1.1.1) (uT5.1.1.2.1 22 (by decide)) rfl (DA_needSign uT5.1 _) (fun v1 w1 h1 => ?_)
        obtain ⟨rfl, U6, rfl, uG6, uD6⟩ := h1
        have uT6 : tD U6 n e4 c := uT5.g uG6 uD6
        have uF6 : tF c S7 U6 := uF5.tr (tF.g uG6)
        obtain ⟨rr6, hr6⟩ := uT6.2.2.2.1
        obtain ⟨ss6, hs6⟩ := uT6.2.2.2.2.1
        obtain ⟨ww6, hw6⟩ := uT6.2.2.2.2.2
        refine x_aload_n 77 0 (ab_dd tk_re_readAll 40 rfl) rfl rfl rfl ?_
        refine t_getP 80 c (ab_dd tk_re_readAll 41 rfl) rfl F_re_40 (by decide) (Nat.lt_of_lt_of_le (by decide) uT6.1.1.1) (uT6.1.1.2.1 22 (by decide)) rfl uT6.2.1 ?_
        refine x_iconst 81 1 (ab_dd tk_re_readAll 42 rfl) rfl (by decide) (x_topn 1 rfl ?_)
        refine t_putI 84 (ab_dd tk_re_readAll 43 rfl) rfl F_re_85 (by omega) (Nat.lt_of_le_of_lt (Nat.le_add_right c 2) uT6.2.2.1.2.1) uT6.2.2.1.2.2.1 rfl rfl rfl ?_
        obtain ⟨U7, hU7⟩ : ∃ U7, U7 = pI U6 c 1 (nI 1) := ⟨_, rfl⟩
        rw [← hU7]
        have uF7 : tF c S7 U7 := uF6.tr (by rw [hU7]; exact tF.p (by omega) (by omega))
        have uT7 : tD U7 n e4 c := by rw [hU7]; exact uT6.puto (by decide)
        obtain ⟨rr7, hr7⟩ := uT7.2.2.2.1
        obtain ⟨ss7, hs7⟩ := uT7.2.2.2.2.1
        obtain ⟨ww7, hw7⟩ := uT7.2.2.2.2.2
        refine x_iconst 85 0 (ab_dd tk_re_readAll 44 rfl) rfl (by decide) (x_topn 0 rfl ?_)
        refine x_istore_n 86 [some (.ref 72), some (.ref 51), some (.int (nI n)), some (.int (nI 0))] 3 (ab_dd tk_re_readAll 45 rfl) rfl rfl (by decide) rfl ?_
        exact dlp U7 _ 0 _ _ (by decide) (hRA7.l (by rw [← hcS]; exact lF.t uF7) (by omega)) (by omega) (by omega) uT7 (by
          unfold trn wX xM
          rw [if_pos hk2]
          try dsimp only
          rw [if_pos hk3]
          rw [hX4]
          try rfl)
      · rw [hX4] at uO4
        obtain ⟨rfl, uL4, hv4⟩ := uO4
        have hg4 := xN_g uT3.1.2.2.2.2.2.2.1 hX4
        have uT4 : tL U4 tp n q4 c F 0 0 := uT3.g uG4 uL4
        show ab_Ex _ _ _ _ _ (.int (nI v4) :: _) _ _
        refine t_putI 70 (ab_dd tk_re_readAll 36 rfl) rfl F_re_79 (by omega) (Nat.lt_of_le_of_lt (Nat.le_add_right c 2) uT4.2.2.1.2.1) uT4.2.2.1.2.2.1 rfl rfl rfl ?_
        obtain ⟨U8, hU8⟩ : ∃ U8, U8 = pI U4 c 2 (nI v4) := ⟨_, rfl⟩
        rw [← hU8]
        have uF8 : tF c S7 U8 := uF4.tr (by rw [hU8]; exact tF.p (by omega) (by omega))
        have uT8 : tL U8 tp n q4 c (up1 F 40 (nI v4)) 0 0 := by rw [hU8]; exact uT4.mon
        refine x_aload_n 71 0 (ab_dd tk_re_readAll 37 rfl) rfl rfl rfl ?_
        refine x_bipush 73 59 (ab_dd tk_re_readAll 38 rfl) rfl (by decide) (x_topn 59 rfl ?_)
        refine t_callV 76 M_re_needSign 6 1 [_] (ab_dd tk_re_readAll 39 rfl) rfl (by first | decide | omega) K_re_needSign V_re_needSign.1 V_re_needSign.2 L_re_81 rfl (Nat.le_of_ble_eq_true rfl) (by decide) (Nat.lt_of_lt_of_le (by decide) uT8.1.1.1) (uT8.1.1.2.1 22 (by decide)) rfl (LA_nsg uT8.1 0 59 (by decide) (by decide)) (fun v1 w1 h1 => ?_)
        obtain ⟨rfl, U9, rfl, uG9, uO9⟩ := h1
        have uF9 : tF c S7 U9 := uF8.tr (tF.g uG9)
        rcases uO9 with ⟨hk9, uL9⟩ | ⟨hk9, uD9⟩
        · have ht9 := tE_g uT8.1.2.2.2.2.2.2.1 (show tK tp n q4 ≠ 24 by omega)
          have uT9 := uT8.g uG9 uL9
          refine x_aload_n 77 0 (ab_dd tk_re_readAll 40 rfl) rfl rfl rfl ?_
          refine t_getP 80 c (ab_dd tk_re_readAll 41 rfl) rfl F_re_40 (by decide) (Nat.lt_of_lt_of_le (by decide) uT9.1.1.1) (uT9.1.1.2.1 22 (by decide)) rfl uT9.2.1 ?_
          refine x_iconst 81 1 (ab_dd tk_re_readAll 42 rfl) rfl (by decide) (x_topn 1 rfl ?_)
          refine t_putI 84 (ab_dd tk_re_readAll 43 rfl) rfl F_re_85 (by omega) (Nat.lt_of_le_of_lt (Nat.le_add_right c 2) uT9.2.2.1.2.1) uT9.2.2.1.2.2.1 rfl rfl rfl ?_
          obtain ⟨U10, hU10⟩ : ∃ U10, U10 = pI U9 c 1 (nI 1) := ⟨_, rfl⟩
          rw [← hU10]
          have uF10 : tF c S7 U10 := uF9.tr (by rw [hU10]; exact tF.p (by omega) (by omega))
          have uT10 : tL U10 tp n (tE tp n q4) c (up1 (up1 F 40 (nI v4)) 0 (nI 1)) 0 0 := by rw [hU10]; exact uT9.lin
          refine x_iconst 85 0 (ab_dd tk_re_readAll 44 rfl) rfl (by decide) (x_topn 0 rfl ?_)
          refine x_istore_n 86 [some (.ref 72), some (.ref 51), some (.int (nI n)), some (.int (nI 0))] 3 (ab_dd tk_re_readAll 45 rfl) rfl rfl (by decide) rfl ?_
          exact lp 1000 U10 _ 0 _ _ 0 0 _ (hRA7.l (by rw [← hcS]; exact lF.t uF10) (by omega)) (by omega) (by omega) uT10 (hW7.tf hc145 uF10 (fun j hj => (up1_o (by omega)).trans (up1_o (by omega)))) (by omega) (by omega) (by omega) (by
            unfold trn wX xM
            rw [if_pos hk2]
            try dsimp only
            rw [if_pos hk3]
            rw [hX4, bN_r]
            unfold cls wX
            rw [if_pos hk9]
            rw [lB_r, show up1 F 40 (nI v4) 0 + 1 = nI 1 by rw [up1_o (by decide), hF0 0 (by decide)]; rfl])
        · have uT9 := uT8.die (by omega) uG9 uD9
          obtain ⟨rr9, hr9⟩ := uT9.2.2.2.1
          obtain ⟨ss9, hs9⟩ := uT9.2.2.2.2.1
          obtain ⟨ww9, hw9⟩ := uT9.2.2.2.2.2
          refine x_aload_n 77 0 (ab_dd tk_re_readAll 40 rfl) rfl rfl rfl ?_
          refine t_getP 80 c (ab_dd tk_re_readAll 41 rfl) rfl F_re_40 (by decide) (Nat.lt_of_lt_of_le (by decide) uT9.1.1.1) (uT9.1.1.2.1 22 (by decide)) rfl uT9.2.1 ?_
          refine x_iconst 81 1 (ab_dd tk_re_readAll 42 rfl) rfl (by decide) (x_topn 1 rfl ?_)
          refine t_putI 84 (ab_dd tk_re_readAll 43 rfl) rfl F_re_85 (by omega) (Nat.lt_of_le_of_lt (Nat.le_add_right c 2) uT9.2.2.1.2.1) uT9.2.2.1.2.2.1 rfl rfl rfl ?_
          obtain ⟨U11, hU11⟩ : ∃ U11, U11 = pI U9 c 1 (nI 1) := ⟨_, rfl⟩
          rw [← hU11]
          have uF11 : tF c S7 U11 := uF9.tr (by rw [hU11]; exact tF.p (by omega) (by omega))
          have uT11 : tD U11 n (pE tp n q4 2) c := by rw [hU11]; exact uT9.puto (by decide)
          obtain ⟨rr11, hr11⟩ := uT11.2.2.2.1
          obtain ⟨ss11, hs11⟩ := uT11.2.2.2.2.1
          obtain ⟨ww11, hw11⟩ := uT11.2.2.2.2.2
          refine x_iconst 85 0 (ab_dd tk_re_readAll 44 rfl) rfl (by decide) (x_topn 0 rfl ?_)
          refine x_istore_n 86 [some (.ref 72), some (.ref 51), some (.int (nI n)), some (.int (nI 0))] 3 (ab_dd tk_re_readAll 45 rfl) rfl rfl (by decide) rfl ?_
          exact dlp U11 _ 0 _ _ (by decide) (hRA7.l (by rw [← hcS]; exact lF.t uF11) (by omega)) (by omega) (by omega) uT11 (by
            unfold trn wX xM
            rw [if_pos hk2]
            try dsimp only
            rw [if_pos hk3]
            rw [hX4, bN_r]
            unfold cls wX
            rw [if_neg hk9]
            try rfl)
    · have uT3 := uT2.die (by omega) uG3 uD3
      obtain ⟨rr3, hr3⟩ := uT3.2.2.2.1
      obtain ⟨ss3, hs3⟩ := uT3.2.2.2.2.1
      obtain ⟨ww3, hw3⟩ := uT3.2.2.2.2.2
      refine x_aload_n 58 0 (ab_dd tk_re_readAll 31 rfl) rfl rfl rfl ?_
      refine t_getP 61 c (ab_dd tk_re_readAll 32 rfl) rfl F_re_40 (by decide) (Nat.lt_of_lt_of_le (by decide) uT3.1.1.1) (uT3.1.1.2.1 22 (by decide)) rfl uT3.2.1 ?_
      refine x_aload_n 62 0 (ab_dd tk_re_readAll 33 rfl) rfl rfl rfl ?_
      refine x_bipush 64 9 (ab_dd tk_re_readAll 34 rfl) rfl (by decide) (x_topn 9 rfl ?_)
      refine t_callV 67 M_re_needNumber 6 1 [_] (ab_dd tk_re_readAll 35 rfl) rfl (by first | decide | omega) K_re_needNumber V_re_needNumber.1 V_re_needNumber.2 L_re_75 rfl (Nat.le_of_ble_eq_true rfl) (by decide) (Nat.lt_of_lt_of_le (by decide) uT3.1.1.1) (uT3.1.1.2.1 22 (by decide)) rfl (DA_needNumber uT3.1 _) (fun v1 w1 h1 => ?_)
      obtain ⟨rfl, U12, rfl, uG12, uD12⟩ := h1
      have uT12 : tD U12 n (pE tp n (tE tp n 0) 2) c := uT3.g uG12 uD12
      have uF12 : tF c S7 U12 := uF3.tr (tF.g uG12)
      obtain ⟨rr12, hr12⟩ := uT12.2.2.2.1
      obtain ⟨ss12, hs12⟩ := uT12.2.2.2.2.1
      obtain ⟨ww12, hw12⟩ := uT12.2.2.2.2.2
      refine t_putI 70 (ab_dd tk_re_readAll 36 rfl) rfl F_re_79 (by omega) (Nat.lt_of_le_of_lt (Nat.le_add_right c 2) uT12.2.2.1.2.1) uT12.2.2.1.2.2.1 rfl rfl rfl ?_
      obtain ⟨U13, hU13⟩ : ∃ U13, U13 = pI U12 c 2 (nI 0) := ⟨_, rfl⟩
      rw [← hU13]
      have uF13 : tF c S7 U13 := uF12.tr (by rw [hU13]; exact tF.p (by omega) (by omega))
      have uT13 : tD U13 n (pE tp n (tE tp n 0) 2) c := by rw [hU13]; exact uT12.puto (by decide)
      obtain ⟨rr13, hr13⟩ := uT13.2.2.2.1
      obtain ⟨ss13, hs13⟩ := uT13.2.2.2.2.1
      obtain ⟨ww13, hw13⟩ := uT13.2.2.2.2.2
      refine x_aload_n 71 0 (ab_dd tk_re_readAll 37 rfl) rfl rfl rfl ?_
      refine x_bipush 73 59 (ab_dd tk_re_readAll 38 rfl) rfl (by decide) (x_topn 59 rfl ?_)
      refine t_callV 76 M_re_needSign 6 1 [_] (ab_dd tk_re_readAll 39 rfl) rfl (by first | decide | omega) K_re_needSign V_re_needSign.1 V_re_needSign.2 L_re_81 rfl (Nat.le_of_ble_eq_true rfl) (by decide) (Nat.lt_of_lt_of_le (by decide) uT13.1.1.1) (uT13.1.1.2.1 22 (by decide)) rfl (DA_needSign uT13.1 _) (fun v1 w1 h1 => ?_)
      obtain ⟨rfl, U14, rfl, uG14, uD14⟩ := h1
      have uT14 : tD U14 n (pE tp n (tE tp n 0) 2) c := uT13.g uG14 uD14
      have uF14 : tF c S7 U14 := uF13.tr (tF.g uG14)
      obtain ⟨rr14, hr14⟩ := uT14.2.2.2.1
      obtain ⟨ss14, hs14⟩ := uT14.2.2.2.2.1
      obtain ⟨ww14, hw14⟩ := uT14.2.2.2.2.2
      refine x_aload_n 77 0 (ab_dd tk_re_readAll 40 rfl) rfl rfl rfl ?_
      refine t_getP 80 c (ab_dd tk_re_readAll 41 rfl) rfl F_re_40 (by decide) (Nat.lt_of_lt_of_le (by decide) uT14.1.1.1) (uT14.1.1.2.1 22 (by decide)) rfl uT14.2.1 ?_
      refine x_iconst 81 1 (ab_dd tk_re_readAll 42 rfl) rfl (by decide) (x_topn 1 rfl ?_)
      refine t_putI 84 (ab_dd tk_re_readAll 43 rfl) rfl F_re_85 (by omega) (Nat.lt_of_le_of_lt (Nat.le_add_right c 2) uT14.2.2.1.2.1) uT14.2.2.1.2.2.1 rfl rfl rfl ?_
      obtain ⟨U15, hU15⟩ : ∃ U15, U15 = pI U14 c 1 (nI 1) := ⟨_, rfl⟩
      rw [← hU15]
      have uF15 : tF c S7 U15 := uF14.tr (by rw [hU15]; exact tF.p (by omega) (by omega))
      have uT15 : tD U15 n (pE tp n (tE tp n 0) 2) c := by rw [hU15]; exact uT14.puto (by decide)
      obtain ⟨rr15, hr15⟩ := uT15.2.2.2.1
      obtain ⟨ss15, hs15⟩ := uT15.2.2.2.2.1
      obtain ⟨ww15, hw15⟩ := uT15.2.2.2.2.2
      refine x_iconst 85 0 (ab_dd tk_re_readAll 44 rfl) rfl (by decide) (x_topn 0 rfl ?_)
      refine x_istore_n 86 [some (.ref 72), some (.ref 51), some (.int (nI n)), some (.int (nI 0))] 3 (ab_dd tk_re_readAll 45 rfl) rfl rfl (by decide) rfl ?_
      exact dlp U15 _ 0 _ _ (by decide) (hRA7.l (by rw [← hcS]; exact lF.t uF15) (by omega)) (by omega) (by omega) uT15 (by
        unfold trn wX xM
        rw [if_pos hk2]
        try dsimp only
        rw [if_neg hk3]
        try rfl)
  · have uT2 := uT1.die (by omega) uG2 uD2
    obtain ⟨rr2, hr2⟩ := uT2.2.2.2.1
    obtain ⟨ss2, hs2⟩ := uT2.2.2.2.2.1
    obtain ⟨ww2, hw2⟩ := uT2.2.2.2.2.2
    refine x_aload_n 52 0 (ab_dd tk_re_readAll 28 rfl) rfl rfl rfl ?_
    refine x_ldcS 54 2 (ab_dd tk_re_readAll 29 rfl) rfl (by decide) (List.mem_of_getElem? (i := 2) rfl) ?_
    refine t_callV 57 M_re_needWord 6 1 [_] (ab_dd tk_re_readAll 30 rfl) rfl (by first | decide | omega) K_re_needWord V_re_needWord.1 V_re_needWord.2 L_re_69 rfl (Nat.le_of_ble_eq_true rfl) (by decide) (Nat.lt_of_lt_of_le (by decide) uT2.1.1.1) (uT2.1.1.2.1 22 (by decide)) rfl (DA_needWord uT2.1 _) (fun v1 w1 h1 => ?_)
    obtain ⟨rfl, U16, rfl, uG16, uD16⟩ := h1
    have uT16 : tD U16 n (pE tp n 0 2) c := uT2.g uG16 uD16
    have uF16 : tF c S7 U16 := uF2.tr (tF.g uG16)
    obtain ⟨rr16, hr16⟩ := uT16.2.2.2.1
    obtain ⟨ss16, hs16⟩ := uT16.2.2.2.2.1
    obtain ⟨ww16, hw16⟩ := uT16.2.2.2.2.2
    refine x_aload_n 58 0 (ab_dd tk_re_readAll 31 rfl) rfl rfl rfl ?_
    refine t_getP 61 c (ab_dd tk_re_readAll 32 rfl) rfl F_re_40 (by decide) (Nat.lt_of_lt_of_le (by decide) uT16.1.1.1) (uT16.1.1.2.1 22 (by decide)) rfl uT16.2.1 ?_
    refine x_aload_n 62 0 (ab_dd tk_re_readAll 33 rfl) rfl rfl rfl ?_
    refine x_bipush 64 9 (ab_dd tk_re_readAll 34 rfl) rfl (by decide) (x_topn 9 rfl ?_)
    refine t_callV 67 M_re_needNumber 6 1 [_] (ab_dd tk_re_readAll 35 rfl) rfl (by first | decide | omega) K_re_needNumber V_re_needNumber.1 V_re_needNumber.2 L_re_75 rfl (Nat.le_of_ble_eq_true rfl) (by decide) (Nat.lt_of_lt_of_le (by decide) uT16.1.1.1) (uT16.1.1.2.1 22 (by decide)) rfl (DA_needNumber uT16.1 _) (fun v1 w1 h1 => ?_)
    obtain ⟨rfl, U17, rfl, uG17, uD17⟩ := h1
    have uT17 : tD U17 n (pE tp n 0 2) c := uT16.g uG17 uD17
    have uF17 : tF c S7 U17 := uF16.tr (tF.g uG17)
    obtain ⟨rr17, hr17⟩ := uT17.2.2.2.1
    obtain ⟨ss17, hs17⟩ := uT17.2.2.2.2.1
    obtain ⟨ww17, hw17⟩ := uT17.2.2.2.2.2
    refine t_putI 70 (ab_dd tk_re_readAll 36 rfl) rfl F_re_79 (by omega) (Nat.lt_of_le_of_lt (Nat.le_add_right c 2) uT17.2.2.1.2.1) uT17.2.2.1.2.2.1 rfl rfl rfl ?_
    obtain ⟨U18, hU18⟩ : ∃ U18, U18 = pI U17 c 2 (nI 0) := ⟨_, rfl⟩
    rw [← hU18]
    have uF18 : tF c S7 U18 := uF17.tr (by rw [hU18]; exact tF.p (by omega) (by omega))
    have uT18 : tD U18 n (pE tp n 0 2) c := by rw [hU18]; exact uT17.puto (by decide)
    obtain ⟨rr18, hr18⟩ := uT18.2.2.2.1
    obtain ⟨ss18, hs18⟩ := uT18.2.2.2.2.1
    obtain ⟨ww18, hw18⟩ := uT18.2.2.2.2.2
    refine x_aload_n 71 0 (ab_dd tk_re_readAll 37 rfl) rfl rfl rfl ?_
    refine x_bipush 73 59 (ab_dd tk_re_readAll 38 rfl) rfl (by decide) (x_topn 59 rfl ?_)
    refine t_callV 76 M_re_needSign 6 1 [_] (ab_dd tk_re_readAll 39 rfl) rfl (by first | decide | omega) K_re_needSign V_re_needSign.1 V_re_needSign.2 L_re_81 rfl (Nat.le_of_ble_eq_true rfl) (by decide) (Nat.lt_of_lt_of_le (by decide) uT18.1.1.1) (uT18.1.1.2.1 22 (by decide)) rfl (DA_needSign uT18.1 _) (fun v1 w1 h1 => ?_)
    obtain ⟨rfl, U19, rfl, uG19, uD19⟩ := h1
    have uT19 : tD U19 n (pE tp n 0 2) c := uT18.g uG19 uD19
    have uF19 : tF c S7 U19 := uF18.tr (tF.g uG19)
    obtain ⟨rr19, hr19⟩ := uT19.2.2.2.1
    obtain ⟨ss19, hs19⟩ := uT19.2.2.2.2.1
    obtain ⟨ww19, hw19⟩ := uT19.2.2.2.2.2
    refine x_aload_n 77 0 (ab_dd tk_re_readAll 40 rfl) rfl rfl rfl ?_
    refine t_getP 80 c (ab_dd tk_re_readAll 41 rfl) rfl F_re_40 (by decide) (Nat.lt_of_lt_of_le (by decide) uT19.1.1.1) (uT19.1.1.2.1 22 (by decide)) rfl uT19.2.1 ?_
    refine x_iconst 81 1 (ab_dd tk_re_readAll 42 rfl) rfl (by decide) (x_topn 1 rfl ?_)
    refine t_putI 84 (ab_dd tk_re_readAll 43 rfl) rfl F_re_85 (by omega) (Nat.lt_of_le_of_lt (Nat.le_add_right c 2) uT19.2.2.1.2.1) uT19.2.2.1.2.2.1 rfl rfl rfl ?_
    obtain ⟨U20, hU20⟩ : ∃ U20, U20 = pI U19 c 1 (nI 1) := ⟨_, rfl⟩
    rw [← hU20]
    have uF20 : tF c S7 U20 := uF19.tr (by rw [hU20]; exact tF.p (by omega) (by omega))
    have uT20 : tD U20 n (pE tp n 0 2) c := by rw [hU20]; exact uT19.puto (by decide)
    obtain ⟨rr20, hr20⟩ := uT20.2.2.2.1
    obtain ⟨ss20, hs20⟩ := uT20.2.2.2.2.1
    obtain ⟨ww20, hw20⟩ := uT20.2.2.2.2.2
    refine x_iconst 85 0 (ab_dd tk_re_readAll 44 rfl) rfl (by decide) (x_topn 0 rfl ?_)
    refine x_istore_n 86 [some (.ref 72), some (.ref 51), some (.int (nI n)), some (.int (nI 0))] 3 (ab_dd tk_re_readAll 45 rfl) rfl rfl (by decide) rfl ?_
    exact dlp U20 _ 0 _ _ (by decide) (hRA7.l (by rw [← hcS]; exact lF.t uF20) (by omega)) (by omega) (by omega) uT20 (by
      unfold trn wX xM
      rw [if_neg hk2]
      try rfl)
