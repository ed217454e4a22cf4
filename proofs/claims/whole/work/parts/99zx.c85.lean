/-! ===== the law: its loop, its begin ===== -/
def tb_law_h : List (Nat × Instr × Nat) := [(0, .new 7, 3), (3, .dup, 1), (4, .invokespecial 9, 3), (7, .astore_n 1, 1), (8, .new 10, 3), (11, .dup, 1), (12, .invokespecial 12, 3), (15, .astore_n 2, 1), (16, .iconst 0, 1), (17, .istore_n 3, 1), (18, .iload_n 3, 1), (19, .aload_n 0, 1), (20, .arraylength, 1), (21, .bipush 6, 2), (23, .isub, 1), (24, .if_icmp .gt 1419, 3), (27, .aload_n 0, 1), (28, .iload_n 3, 1), (29, .iaload, 1), (30, .bipush 63, 2), (32, .iand, 1), (33, .tableswitch 1404 0 40 #[179, 242, 265, 288, 321, 344, 367, 400, 423, 446, 479, 502, 525, 548, 581, 604, 637, 670, 693, 716, 739, 772, 806, 829, 852, 865, 898, 931, 944, 977, 1010, 1043, 1076, 1109, 1152, 1185, 1228, 1302, 1335, 1358, 1381], 179), (1437, .iinc 3 6, 3), (1440, .goto (-1422), 3), (1443, .iconst 1, 1), (1444, .ireturn, 1)]
theorem tk_law_h : ∀ q ∈ tb_law_h, decode ab_law.2.1 q.1 = .ok q.2 := by decide +kernel
theorem cmp_L {L j : Nat} (hL : L ≤ 3072) (hj : j ≤ 4000) : nI L - nI 6 < nI j ↔ ¬ j + 6 ≤ L := by
  have e : (nI L - nI 6).toInt = (L : Int) - 6 := pk_sub_toInt (a := L) (b := 6) (by omega) (by decide)
  rw [Int32.lt_iff_toInt_lt, e, nI_toInt (show j < 2 ^ 31 by omega)]
  omega
theorem law_sw {G : ab_G} {S : ab_S} {u L j : Nat} {xs : Nat → Int32} {Q : Option Value → ab_H → Prop} {y : Int32} (hS : Sim S u) (hu : u + 128 < 2 ^ 20) (hj : j + 6 ≤ L) (hL : L ≤ 3072) (h48 : S.1 48 = .inl (.int, L, .inl xs)) (K : ∀ S2, Sim S2 (u + 128) → gA S S2 904 929 → S2.1 = S.1 → ab_Ex G 1000 ab_law 1437 [some (.ref 48), some (.ref 50), some (.ref 120), some (.int (nI j))] [] (sw S2) Q) (k : Nat) (hk : k < 41) (hy : y.toInt = (k : Int)) : ab_Ex G 1000 ab_law 33 [some (.ref 48), some (.ref 50), some (.ref 120), some (.int (nI j))] [.int y] (sw S) Q := by
  match k, hk, hy with
  | 0, _, hy => exact x_tableIn 212 (ab_dd tk_law_h 21 rfl) (by rw [hy]; decide) (by rw [hy]; decide) (by rw [hy]; rfl) (by decide) (law_0 hS hu hj hL h48 K)
  | 1, _, hy => exact x_tableIn 275 (ab_dd tk_law_h 21 rfl) (by rw [hy]; decide) (by rw [hy]; decide) (by rw [hy]; rfl) (by decide) (law_1 hS hu hj hL h48 K)
  | 2, _, hy => exact x_tableIn 298 (ab_dd tk_law_h 21 rfl) (by rw [hy]; decide) (by rw [hy]; decide) (by rw [hy]; rfl) (by decide) (law_2 hS hu hj hL h48 K)
  | 3, _, hy => exact x_tableIn 321 (ab_dd tk_law_h 21 rfl) (by rw [hy]; decide) (by rw [hy]; decide) (by rw [hy]; rfl) (by decide) (law_3 hS hu hj hL h48 K)
  | 4, _, hy => exact x_tableIn 354 (ab_dd tk_law_h 21 rfl) (by rw [hy]; decide) (by rw [hy]; decide) (by rw [hy]; rfl) (by decide) (law_4 hS hu hj hL h48 K)
  | 5, _, hy => exact x_tableIn 377 (ab_dd tk_law_h 21 rfl) (by rw [hy]; decide) (by rw [hy]; decide) (by rw [hy]; rfl) (by decide) (law_5 hS hu hj hL h48 K)
  | 6, _, hy => exact x_tableIn 400 (ab_dd tk_law_h 21 rfl) (by rw [hy]; decide) (by rw [hy]; decide) (by rw [hy]; rfl) (by decide) (law_6 hS hu hj hL h48 K)
  | 7, _, hy => exact x_tableIn 433 (ab_dd tk_law_h 21 rfl) (by rw [hy]; decide) (by rw [hy]; decide) (by rw [hy]; rfl) (by decide) (law_7 hS hu hj hL h48 K)
  | 8, _, hy => exact x_tableIn 456 (ab_dd tk_law_h 21 rfl) (by rw [hy]; decide) (by rw [hy]; decide) (by rw [hy]; rfl) (by decide) (law_8 hS hu hj hL h48 K)
  | 9, _, hy => exact x_tableIn 479 (ab_dd tk_law_h 21 rfl) (by rw [hy]; decide) (by rw [hy]; decide) (by rw [hy]; rfl) (by decide) (law_9 hS hu hj hL h48 K)
  | 10, _, hy => exact x_tableIn 512 (ab_dd tk_law_h 21 rfl) (by rw [hy]; decide) (by rw [hy]; decide) (by rw [hy]; rfl) (by decide) (law_10 hS hu hj hL h48 K)
  | 11, _, hy => exact x_tableIn 535 (ab_dd tk_law_h 21 rfl) (by rw [hy]; decide) (by rw [hy]; decide) (by rw [hy]; rfl) (by decide) (law_11 hS hu hj hL h48 K)
  | 12, _, hy => exact x_tableIn 558 (ab_dd tk_law_h 21 rfl) (by rw [hy]; decide) (by rw [hy]; decide) (by rw [hy]; rfl) (by decide) (law_12 hS hu hj hL h48 K)
  | 13, _, hy => exact x_tableIn 581 (ab_dd tk_law_h 21 rfl) (by rw [hy]; decide) (by rw [hy]; decide) (by rw [hy]; rfl) (by decide) (law_13 hS hu hj hL h48 K)
  | 14, _, hy => exact x_tableIn 614 (ab_dd tk_law_h 21 rfl) (by rw [hy]; decide) (by rw [hy]; decide) (by rw [hy]; rfl) (by decide) (law_14 hS hu hj hL h48 K)
  | 15, _, hy => exact x_tableIn 637 (ab_dd tk_law_h 21 rfl) (by rw [hy]; decide) (by rw [hy]; decide) (by rw [hy]; rfl) (by decide) (law_15 hS hu hj hL h48 K)
  | 16, _, hy => exact x_tableIn 670 (ab_dd tk_law_h 21 rfl) (by rw [hy]; decide) (by rw [hy]; decide) (by rw [hy]; rfl) (by decide) (law_16 hS hu hj hL h48 K)
  | 17, _, hy => exact x_tableIn 703 (ab_dd tk_law_h 21 rfl) (by rw [hy]; decide) (by rw [hy]; decide) (by rw [hy]; rfl) (by decide) (law_17 hS hu hj hL h48 K)
  | 18, _, hy => exact x_tableIn 726 (ab_dd tk_law_h 21 rfl) (by rw [hy]; decide) (by rw [hy]; decide) (by rw [hy]; rfl) (by decide) (law_18 hS hu hj hL h48 K)
  | 19, _, hy => exact x_tableIn 749 (ab_dd tk_law_h 21 rfl) (by rw [hy]; decide) (by rw [hy]; decide) (by rw [hy]; rfl) (by decide) (law_19 hS hu hj hL h48 K)
  | 20, _, hy => exact x_tableIn 772 (ab_dd tk_law_h 21 rfl) (by rw [hy]; decide) (by rw [hy]; decide) (by rw [hy]; rfl) (by decide) (law_20 hS hu hj hL h48 K)
  | 21, _, hy => exact x_tableIn 805 (ab_dd tk_law_h 21 rfl) (by rw [hy]; decide) (by rw [hy]; decide) (by rw [hy]; rfl) (by decide) (law_21 hS hu hj hL h48 K)
  | 22, _, hy => exact x_tableIn 839 (ab_dd tk_law_h 21 rfl) (by rw [hy]; decide) (by rw [hy]; decide) (by rw [hy]; rfl) (by decide) (law_22 hS hu hj hL h48 K)
  | 23, _, hy => exact x_tableIn 862 (ab_dd tk_law_h 21 rfl) (by rw [hy]; decide) (by rw [hy]; decide) (by rw [hy]; rfl) (by decide) (law_23 hS hu hj hL h48 K)
  | 24, _, hy => exact x_tableIn 885 (ab_dd tk_law_h 21 rfl) (by rw [hy]; decide) (by rw [hy]; decide) (by rw [hy]; rfl) (by decide) (law_24 hS hu hj hL h48 K)
  | 25, _, hy => exact x_tableIn 898 (ab_dd tk_law_h 21 rfl) (by rw [hy]; decide) (by rw [hy]; decide) (by rw [hy]; rfl) (by decide) (law_25 hS hu hj hL h48 K)
  | 26, _, hy => exact x_tableIn 931 (ab_dd tk_law_h 21 rfl) (by rw [hy]; decide) (by rw [hy]; decide) (by rw [hy]; rfl) (by decide) (law_26 hS hu hj hL h48 K)
  | 27, _, hy => exact x_tableIn 964 (ab_dd tk_law_h 21 rfl) (by rw [hy]; decide) (by rw [hy]; decide) (by rw [hy]; rfl) (by decide) (law_27 hS hu hj hL h48 K)
  | 28, _, hy => exact x_tableIn 977 (ab_dd tk_law_h 21 rfl) (by rw [hy]; decide) (by rw [hy]; decide) (by rw [hy]; rfl) (by decide) (law_28 hS hu hj hL h48 K)
  | 29, _, hy => exact x_tableIn 1010 (ab_dd tk_law_h 21 rfl) (by rw [hy]; decide) (by rw [hy]; decide) (by rw [hy]; rfl) (by decide) (law_29 hS hu hj hL h48 K)
  | 30, _, hy => exact x_tableIn 1043 (ab_dd tk_law_h 21 rfl) (by rw [hy]; decide) (by rw [hy]; decide) (by rw [hy]; rfl) (by decide) (law_30 hS hu hj hL h48 K)
  | 31, _, hy => exact x_tableIn 1076 (ab_dd tk_law_h 21 rfl) (by rw [hy]; decide) (by rw [hy]; decide) (by rw [hy]; rfl) (by decide) (law_31 hS hu hj hL h48 K)
  | 32, _, hy => exact x_tableIn 1109 (ab_dd tk_law_h 21 rfl) (by rw [hy]; decide) (by rw [hy]; decide) (by rw [hy]; rfl) (by decide) (law_32 hS hu hj hL h48 K)
  | 33, _, hy => exact x_tableIn 1142 (ab_dd tk_law_h 21 rfl) (by rw [hy]; decide) (by rw [hy]; decide) (by rw [hy]; rfl) (by decide) (law_33 hS hu hj hL h48 K)
  | 34, _, hy => exact x_tableIn 1185 (ab_dd tk_law_h 21 rfl) (by rw [hy]; decide) (by rw [hy]; decide) (by rw [hy]; rfl) (by decide) (law_34 hS hu hj hL h48 K)
  | 35, _, hy => exact x_tableIn 1218 (ab_dd tk_law_h 21 rfl) (by rw [hy]; decide) (by rw [hy]; decide) (by rw [hy]; rfl) (by decide) (law_35 hS hu hj hL h48 K)
  | 36, _, hy => exact x_tableIn 1261 (ab_dd tk_law_h 21 rfl) (by rw [hy]; decide) (by rw [hy]; decide) (by rw [hy]; rfl) (by decide) (law_36 hS hu hj hL h48 K)
  | 37, _, hy => exact x_tableIn 1335 (ab_dd tk_law_h 21 rfl) (by rw [hy]; decide) (by rw [hy]; decide) (by rw [hy]; rfl) (by decide) (law_37 hS hu hj hL h48 K)
  | 38, _, hy => exact x_tableIn 1368 (ab_dd tk_law_h 21 rfl) (by rw [hy]; decide) (by rw [hy]; decide) (by rw [hy]; rfl) (by decide) (law_38 hS hu hj hL h48 K)
  | 39, _, hy => exact x_tableIn 1391 (ab_dd tk_law_h 21 rfl) (by rw [hy]; decide) (by rw [hy]; decide) (by rw [hy]; rfl) (by decide) (law_39 hS hu hj hL h48 K)
  | 40, _, hy => exact x_tableIn 1414 (ab_dd tk_law_h 21 rfl) (by rw [hy]; decide) (by rw [hy]; decide) (by rw [hy]; rfl) (by decide) (law_40 hS hu hj hL h48 K)
  | k + 41, hk, _ => exact absurd hk (by omega)
theorem bd_s {x y a k i : Nat} (h : y ≤ x + k) (g : x ≤ a + k * i) : y ≤ a + k * (i + 1) := by
  rw [Nat.mul_succ]
  omega
theorem law_loop {G : ab_G} {L : Nat} {xs : Nat → Int32} (hL : L ≤ 3072) : ∀ (m i : Nat), i + m = 513 → 6 * i ≤ L → ∀ S : ab_S, Sim S (2 + 128 * i) → S.1 48 = .inl (.int, L, .inl xs) → cA S ≤ 219 + 904 * i → zA S ≤ 2000000 + 929 * i → ab_Ex G 1000 ab_law 18 [some (.ref 48), some (.ref 50), some (.ref 120), some (.int (nI (6 * i)))] [] (sw S) (ab_ok (ab_w0 L xs)) := by
  intro m
  induction m with
  | zero => intro i h1 h2; omega
  | succ m ih =>
    intro i h1 h2 S hS h48 hc hz
    have h50 : 50 ≤ sn S := by
      obtain ⟨im, c, b, bh, nb, st, st2, n, s, f, t, tp, h, hQ⟩ := hS
      have := hQ.1.1
      omega
    have K : ∀ S2, Sim S2 (2 + 128 * i + 128) → cA S2 ≤ cA S + 904 → zA S2 ≤ zA S + 929 → S2.1 = S.1 → 6 * i + 6 ≤ L → ab_Ex G 1000 ab_law 1437 [some (.ref 48), some (.ref 50), some (.ref 120), some (.int (nI (6 * i)))] [] (sw S2) (ab_ok (ab_w0 L xs)) := fun S2 hS2 g1 g2 e2 h3 => by
      refine x_iincN 1440 3 6 (fun y => [some (.ref 48), some (.ref 50), some (.ref 120), some (.int y)]) (ab_dd tk_law_h 22 rfl) rfl (by decide) rfl (by decide) (fun _ => rfl) (fun v1 ev1 => ?_)
      refine x_goto 18 (ab_dd tk_law_h 23 rfl) (by decide) ?_
      have e : v1 = nI (6 * (i + 1)) := by
        rw [ev1, show 6 * (i + 1) = 6 * i + 6 by omega, ← nI_add]
        rfl
      subst e
      exact ih (i + 1) (by omega) (by omega) S2 (by rw [show 2 + 128 * (i + 1) = 2 + 128 * i + 128 by omega]; exact hS2) (by rw [e2]; exact h48) (bd_s g1 hc) (bd_s g2 hz)
    refine x_iload_n 19 3 (ab_dd tk_law_h 10 rfl) rfl rfl rfl ?_
    refine x_aload_n 20 0 (ab_dd tk_law_h 11 rfl) rfl rfl rfl ?_
    refine t_alenK 21 (ab_dd tk_law_h 12 rfl) rfl (by decide) h50 h48 ?_
    refine x_bipush 23 6 (ab_dd tk_law_h 13 rfl) rfl (by decide) (x_topn 6 rfl ?_)
    refine x_isub 24 (ab_dd tk_law_h 14 rfl) rfl ?_
    refine x_icmp_gt 27 1443 (ab_dd tk_law_h 15 rfl) rfl (by decide) (fun hgt => ?_) (fun hgt => ?_)
    · refine x_iconst 1444 1 (ab_dd tk_law_h 24 rfl) rfl (by decide) ?_
      refine x_iret (ab_dd tk_law_h 25 rfl) ⟨rfl, ?_, ?_⟩
      · rw [sw_len]
        unfold cA at hc
        show sn S - 50 ≤ 600000
        omega
      · unfold zA at hz
        show sz S - 0 ≤ 7302250
        omega
    · have h3 : 6 * i + 6 ≤ L := Decidable.byContradiction (fun z => hgt ((cmp_L hL (by omega)).mpr z))
      refine x_aload_n 28 0 (ab_dd tk_law_h 16 rfl) rfl rfl rfl ?_
      refine x_iload_n 29 3 (ab_dd tk_law_h 17 rfl) rfl rfl rfl ?_
      refine t_ialdK 30 (6 * i) (ab_dd tk_law_h 18 rfl) rfl (by decide) h50 h48 rfl (by omega) (by omega) ?_
      refine x_bipush 32 63 (ab_dd tk_law_h 19 rfl) rfl (by decide) ?_
      refine x_iand 33 (ab_dd tk_law_h 20 rfl) rfl (x_topi (fun y _ => ?_))
      by_cases ho : y.toInt < 0 ∨ 40 < y.toInt
      · exact x_tableOut 1437 (ab_dd tk_law_h 21 rfl) ho (by decide) (K S (hS.up (by omega)) (Nat.le_add_right _ _) (Nat.le_add_right _ _) rfl h3)
      · exact law_sw hS (by omega) h3 hL h48 (fun S2 g1 g2 g3 => K S2 g1 g2.1 g2.2 g3 h3) y.toInt.toNat (by omega) (by omega)
