theorem m1s (m : Nat) : nI m + (-1) = nI m - nI 1 := by
  rw [Int32.sub_eq_add_neg]
  rfl
theorem bK_pl (a : Nat → Int32) {w q : Nat} (hw : w < 5 ^ aR a) : bK a (q * 5 ^ aR a + w) = cB a w q := by
  unfold bK
  rw [show (q * 5 ^ aR a + w) % 5 ^ aR a = w by rw [Nat.mul_comm, Nat.mul_add_mod]; exact Nat.mod_eq_of_lt hw, show (q * 5 ^ aR a + w) / 5 ^ aR a = q by rw [Nat.mul_comm, Nat.mul_add_div (p5_pos _), Nat.div_eq_of_lt hw]; rfl]
theorem dig4 (c : Nat) : c % 625 = mWa c 0 + 5 * mWa c 1 + 25 * mWa c 2 + 125 * mWa c 3 := by
  unfold mWa
  rw [show (5 : Nat) ^ 0 = 1 from rfl, show (5 : Nat) ^ 1 = 5 from rfl, show (5 : Nat) ^ 2 = 25 from rfl, show (5 : Nat) ^ 3 = 125 from rfl]
  omega
/-- warmths in one number, the last rider first -/
def hv (tw : Nat → Nat) (R : Nat) : Nat → Nat
  | 0 => 0
  | j + 1 => hv tw R j * 5 + tw (R - 1 - j)
theorem hv_le {tw : Nat → Nat} (h : ∀ r, tw r < 5) (R : Nat) : ∀ j, j ≤ 4 → hv tw R j < 5 ^ j
  | 0, _ => by show 0 < 1; decide
  | j + 1, hj => by
    have h1 := hv_le h R j (by omega)
    have h2 := h (R - 1 - j)
    show hv tw R j * 5 + tw (R - 1 - j) < 5 ^ (j + 1)
    rw [Nat.pow_succ]
    omega
abbrev cT (a : Nat → Int32) (w q : Nat) : Nat → Nat := fun r => spT (mWl (rwS a)) (mSea (rwS a)) (mCls (rwS a)) (aR a) (a 40) (cSt (aR a) w q) r
theorem cB_hv {a : Nat → Int32} {w q : Nat} (hR : aR a ≤ 4) (hq : q < kFc (aR a)) (hw : w < 5 ^ aR a) : cB a w q = hv (cT a w q) (aR a) (aR a) := by
  have h6 := p5_6 hR
  have hc := cSt_lt (w := w) hR hq (by omega)
  have hs : aS a (a 40) (cSt (aR a) w q) 0 = spF (cT a w q) (cSt (aR a) w q) (aR a) := rfl
  obtain ⟨-, -, hd⟩ := spF_dig (tw := cT a w q) hc (fun r => spT_lt _ _ _ _ _ _ r) (aR a) hR
  unfold cB
  rw [hs, dig4, hd 0 (by decide), hd 1 (by decide), hd 2 (by decide), hd 3 (by decide), cSt_wa (by omega), cSt_wa (by omega), cSt_wa (by omega), cSt_wa (by omega)]
  have hz : ∀ t, aR a ≤ t → mWa w t = 0 := fun t ht => mWa_hi hR hw ht
  have hk : aR a = 0 ∨ aR a = 1 ∨ aR a = 2 ∨ aR a = 3 ∨ aR a = 4 := by omega
  generalize cT a w q = tw
  generalize aR a = R at hz hk
  rcases hk with rfl | rfl | rfl | rfl | rfl
  · simp [hv, hz]
  · simp [hv, hz]
  · simp [hv, hz]; omega
  · simp [hv, hz]; omega
  · simp [hv]; omega
theorem cB_lt {a : Nat → Int32} {w q : Nat} (hR : aR a ≤ 4) (hq : q < kFc (aR a)) (hw : w < 5 ^ aR a) : cB a w q < 5 ^ aR a := by
  rw [cB_hv hR hq hw]
  exact hv_le (fun r => spT_lt _ _ _ _ _ _ r) _ _ hR
theorem cB_st {a : Nat → Int32} {w q : Nat} (hR : aR a ≤ 4) (hq : q < kFc (aR a)) (hw : w < 5 ^ aR a) : aS a (a 40) (cSt (aR a) w q) 0 = cSt (aR a) (cB a w q) q := by
  have h6 := p5_6 hR
  have hc := cSt_lt (w := w) hR hq (by omega)
  have hs : aS a (a 40) (cSt (aR a) w q) 0 = spF (cT a w q) (cSt (aR a) w q) (aR a) := rfl
  obtain ⟨-, hd, -⟩ := spF_dig (tw := cT a w q) hc (fun r => spT_lt _ _ _ _ _ _ r) (aR a) hR
  have h1 := Nat.div_add_mod (aS a (a 40) (cSt (aR a) w q) 0) 625
  rw [← h1]
  show _ = 625 * qU (aR a) q + cB a w q
  rw [hs, hd, cSt_d (by omega), ← hs]
  rfl
theorem cB_sw {a : Nat → Int32} {w q d : Nat} (hR : aR a ≤ 4) (hq : q < kFc (aR a)) (hw : w < 5 ^ aR a) (hd : d < aR a) : aS a (a 40) (cSt (aR a) w q) d = cSt (aR a) (cB a w (qCh q d)) (qCh q d) := by
  have h6 := p5_6 hR
  have hq2 := ((qB1_ok hR hq).2.2.2.2.2.1 d hd).1
  have e : aS a (a 40) (cSt (aR a) w q) d = aS a (a 40) (cSt (aR a) w (qCh q d)) 0 := by
    show spF (fun r => spT _ _ _ _ _ (mSw (aR a) (cSt (aR a) w q) d) r) (mSw (aR a) (cSt (aR a) w q) d) (aR a) = spF (fun r => spT _ _ _ _ _ (mSw (aR a) (cSt (aR a) w (qCh q d)) 0) r) (mSw (aR a) (cSt (aR a) w (qCh q d)) 0) (aR a)
    rw [cSt_sw hR hq (by omega) hd]
    rfl
  rw [e]
  exact cB_st hR hq2 hw
def tb_cl_behind : List (Nat × Instr × Nat) := [(0, .iload_n 2, 1), (1, .getstatic 57, 3), (4, .aload_n 0, 1), (5, .getfield 12, 3), (8, .getfield 60, 3), (11, .iaload, 1), (12, .imul, 1), (13, .iload_n 1, 1), (14, .iadd, 1), (15, .istore_n 3, 1), (16, .iload_n 3, 1), (17, .ifCond .lt 16, 3), (20, .iload_n 3, 1), (21, .aload_n 0, 1), (22, .getfield 28, 3), (25, .arraylength, 1), (26, .if_icmp .ge 7, 3), (29, .iconst 1, 1), (30, .goto 4, 3), (33, .iconst 0, 1), (34, .istore 4, 2), (36, .iload 4, 2), (38, .ifCond .eq 30, 3), (41, .aload_n 0, 1), (42, .getfield 28, 3), (45, .iload_n 3, 1), (46, .iaload, 1), (47, .bipush 10, 2), (49, .ishr, 1), (50, .aload_n 0, 1), (51, .getfield 25, 3), (54, .if_icmp .ne 14, 3), (57, .aload_n 0, 1), (58, .getfield 28, 3), (61, .iload_n 3, 1), (62, .iaload, 1), (63, .sipush 1023, 3), (66, .iand, 1), (67, .ireturn, 1), (68, .iload_n 1, 1), (69, .istore 5, 2), (71, .iconst 0, 1), (72, .istore 6, 2), (74, .iload 6, 2), (76, .aload_n 0, 1), (77, .getfield 12, 3), (80, .getfield 60, 3), (83, .if_icmp .ge 26, 3), (86, .aload_n 0, 1), (87, .getfield 38, 3), (90, .iload 6, 2), (92, .iload 5, 2), (94, .iconst 5, 1), (95, .irem, 1), (96, .iastore, 1), (97, .iload 5, 2), (99, .iconst 5, 1), (100, .idiv, 1), (101, .istore 5, 2), (103, .iinc 6 1, 3), (106, .goto (-32), 3), (109, .iconst 0, 1), (110, .istore 6, 2), (112, .aload_n 0, 1), (113, .getfield 12, 3), (116, .getfield 60, 3), (119, .iconst 1, 1), (120, .isub, 1), (121, .istore 7, 2), (123, .iload 7, 2), (125, .ifCond .lt 23, 3), (128, .iload 6, 2), (130, .iconst 5, 1), (131, .imul, 1), (132, .aload_n 0, 1), (133, .iload 7, 2), (135, .iload_n 2, 1), (136, .invokevirtual 90, 3), (139, .iadd, 1), (140, .istore 6, 2), (142, .iinc 7 (-1), 3), (145, .goto (-22), 3), (148, .iload 4, 2), (150, .ifCond .eq 19, 3), (153, .aload_n 0, 1), (154, .getfield 28, 3), (157, .iload_n 3, 1), (158, .aload_n 0, 1), (159, .getfield 25, 3), (162, .bipush 10, 2), (164, .ishl, 1), (165, .iload 6, 2), (167, .ior, 1), (168, .iastore, 1), (169, .iload 6, 2), (171, .ireturn, 1)]
theorem tk_cl_behind : ∀ q ∈ tb_cl_behind, decode M_cl_behind.2.1 q.1 = .ok q.2 := by decide +kernel
theorem c_cl_behind {G : ab_G} {S : ab_S} {im : Nat → Prop} {x c bh nb st : Nat} {a : Nat → Int32} (hK : clK S x) (him : imO im) (hcl : clI S im x c a bh nb st) (hx : xSh S) (hse : seOk S) (kc : kSh S.1) (ha : aGood a) (w q : Nat) (hw : w < 5 ^ aR a) (hq : q < kFc (aR a)) : ab_C G 3 M_cl_behind [.ref x, .int (nI w), .int (nI q)] (sw S) (fun v w' => v = some (.int (nI (cB a w q))) ∧ ∃ S', w' = sw S' ∧ sEq [x + 5, x + 7, x + 8, x + 9, bh] S S' ∧ clI S' im x c a bh nb st) := by
  refine x_enter [some (.ref x), some (.int (nI w)), some (.int (nI q)), none, none, none, none, none] (by decide) (Nat.le_of_ble_eq_true rfl) rfl (fun v w' h => by obtain ⟨rfl, -⟩ := h; rfl) ?_
  have g := hcl
  obtain ⟨a1, a2, a3, a4, a5, a6, a7, a8, a9, a10, a11, a12, b1, b2, b3⟩ := g
  have hxx := hK.1
  have g1 := a1
  obtain ⟨hk, c1, c2, c3, c4, c5, c6, c7⟩ := g1
  have hci := him c hk.2.2.2.2.2.2.2.1
  have hci1 := him (c + 1) hk.2.2.2.2.2.2.2.2.1
  have hci2 := him (c + 2) hk.2.2.2.2.2.2.2.2.2
  have hnim : ∀ k, k ≤ 9 → ¬ im (x + k) := fun k hk z => by have := him _ z; omega
  have hR := ha.1.R.2
  have hq24 := Nat.lt_of_lt_of_le hq (kFc_le (aR a))
  have h6 := p5_6 hR
  have h50 : 50 ≤ sn S := Nat.le_trans (by decide) hx.1
  have hpl : q * 5 ^ aR a ≤ 24 * 625 := Nat.mul_le_mul (by omega) h6
  have hcb := cB_lt hR hq hw
  have fin : ∀ (kp : Nat) (S1 : ab_S) (y7 : Option Value), (kp = 0 ∨ (kp = 1 ∧ (q * (5 ^ aR a) + w) < nb)) → sEq [x + 5, x + 7, x + 8, x + 9, bh] S S1 → clK S1 x → clI S1 im x c a bh nb st → ab_Ex G 3 M_cl_behind 148 [some (.ref x), some (.int (nI w)), some (.int (nI q)), some (.int (nI (q * (5 ^ aR a) + w))), some (.int (nI kp)), none, some (.int (nI (cB a w q))), y7] [] (sw S1) (fun v w' => v = some (.int (nI (cB a w q))) ∧ ∃ S', w' = sw S' ∧ sEq [x + 5, x + 7, x + 8, x + 9, bh] S S' ∧ clI S' im x c a bh nb st) := by
    intro kp S1 y7 hkp hE1 hK1 hcl1
    refine x_forget 7 ?_
    have hcl1b := hcl1
    obtain ⟨f1, f2, f3, f4, f5, f6, f7, f8, f9, f10, f11, f12, f13, f14, f15⟩ := hcl1b
    rcases hkp with rfl | ⟨rfl, hkn⟩
    · refine x_iload 150 4 (ab_dd tk_cl_behind 82 rfl) rfl rfl ?_
      refine x_if_eq_t 169 (ab_dd tk_cl_behind 83 rfl) (by decide) rfl ?_
      refine x_iload 171 6 (ab_dd tk_cl_behind 94 rfl) rfl rfl ?_
      exact x_iret (ab_dd tk_cl_behind 95 rfl) ⟨rfl, _, rfl, hE1, hcl1⟩
    · refine x_iload 150 4 (ab_dd tk_cl_behind 82 rfl) rfl rfl ?_
      refine x_if_eq_f 153 (ab_dd tk_cl_behind 83 rfl) rfl 169 (by decide) (by decide) ?_
      refine x_aload_n 154 0 (ab_dd tk_cl_behind 84 rfl) rfl rfl rfl ?_
      refine t_getP 157 bh (ab_dd tk_cl_behind 85 rfl) rfl F_cl_28 (by rcases hK1.1 with z | z <;> omega) (Nat.lt_of_le_of_lt (Nat.le_add_right x 9) hK1.2.1) hK1.2.2.1 rfl f7 ?_
      refine x_iload_n 158 3 (ab_dd tk_cl_behind 86 rfl) rfl rfl rfl ?_
      refine x_aload_n 159 0 (ab_dd tk_cl_behind 87 rfl) rfl rfl rfl ?_
      refine t_getI 162 (ab_dd tk_cl_behind 88 rfl) rfl F_cl_25 (by rcases hK1.1 with z | z <;> omega) (Nat.lt_of_le_of_lt (Nat.le_add_right x 9) hK1.2.1) hK1.2.2.1 rfl (x_topn st f5 ?_)
      refine x_bipush 164 10 (ab_dd tk_cl_behind 89 rfl) rfl (by decide) (x_topn 10 rfl ?_)
      refine x_ishl 165 (ab_dd tk_cl_behind 90 rfl) rfl (x_topn (2 ^ 10 * st) (by rw [pk_shlN _ 10 (by decide) (by omega)]; congr 1; omega) ?_)
      refine x_iload 167 6 (ab_dd tk_cl_behind 91 rfl) rfl rfl ?_
      refine x_ior 168 (ab_dd tk_cl_behind 92 rfl) rfl (x_topn (2 ^ 10 * st + cB a w q) (fa_or_sum st (by omega)) ?_)
      refine t_iast 169 (q * (5 ^ aR a) + w) (ab_dd tk_cl_behind 93 rfl) rfl f8.1 f8.2 f9 rfl (by omega) (by omega) ?_
      refine x_iload 171 6 (ab_dd tk_cl_behind 94 rfl) rfl rfl ?_
      have hE3 : sEq [x + 5, x + 7, x + 8, x + 9, bh] S (pI S1 bh (q * (5 ^ aR a) + w) (nI (2 ^ 10 * st + cB a w q))) := hE1.pI (List.Mem.tail _ (List.Mem.tail _ (List.Mem.tail _ (List.Mem.tail _ (List.Mem.head _)))))
      have hE4 : sEq [bh] S1 (pI S1 bh (q * (5 ^ aR a) + w) (nI (2 ^ 10 * st + cB a w q))) := sEq.rf.pI (List.Mem.head _)
      exact x_iret (ab_dd tk_cl_behind 95 rfl) ⟨rfl, _, rfl, hE3, hcl1.mk (l := [bh]) hE4 (by simp only [List.mem_cons, List.not_mem_nil, or_false, not_or]; omega) (fun y hy => by rw [List.mem_singleton.mp hy]; exact a11) (f13.up (i := (q * (5 ^ aR a) + w)) (v := cB a w q) (upd_row _ _ rfl) (by omega) (bK_pl a hw).symm (by omega)) (f14.eq (hE4.2.2.1 _ (by simp only [List.mem_cons, List.not_mem_nil, or_false, not_or]; omega))) (f15.eq (hE4.2.2.1 _ (by simp only [List.mem_cons, List.not_mem_nil, or_false, not_or]; omega)))⟩
  have lp2 : ∀ (kp : Nat), kp < 2 → (kp = 0 ∨ (kp = 1 ∧ (q * (5 ^ aR a) + w) < nb)) → ∀ m, m ≤ aR a → ∀ S1 : ab_S, sEq [x + 5, x + 7, x + 8, x + 9, bh] S S1 → clI S1 im x c a bh nb st → (∀ i, i < aR a → sI S1 (x + 7) i = nI (mWa w i)) → ab_Ex G 3 M_cl_behind 123 [some (.ref x), some (.int (nI w)), some (.int (nI q)), some (.int (nI (q * (5 ^ aR a) + w))), some (.int (nI kp)), none, some (.int (nI (hv (cT a w q) (aR a) (aR a - m)))), some (.int (nI m - nI 1))] [] (sw S1) (fun v w' => v = some (.int (nI (cB a w q))) ∧ ∃ S', w' = sw S' ∧ sEq [x + 5, x + 7, x + 8, x + 9, bh] S S' ∧ clI S' im x c a bh nb st) := by
    intro kp hk2 hkp m
    induction m with
    | zero =>
      intro _ S1 hE1 hcl1 hah
      have hK1 : clK S1 x := hK.eq hE1
      rw [Nat.sub_zero, ← cB_hv hR hq hw]
      refine x_iload 125 7 (ab_dd tk_cl_behind 69 rfl) rfl rfl ?_
      refine x_if_lt_t 148 (ab_dd tk_cl_behind 70 rfl) (by decide) (by decide) ?_
      exact fin kp S1 _ hkp hE1 hK1 hcl1
    | succ m ih =>
      intro hm S1 hE1 hcl1 hah
      have hK1 : clK S1 x := hK.eq hE1
      have hx1 : xSh S1 := hx.eq hE1
      have hse1 : seOk S1 := hse.eq hE1 (by simp only [List.mem_cons, List.not_mem_nil, or_false, not_or]; omega) (by simp only [List.mem_cons, List.not_mem_nil, or_false, not_or]; omega) (by simp only [List.mem_cons, List.not_mem_nil, or_false, not_or]; omega) (by simp only [List.mem_cons, List.not_mem_nil, or_false, not_or]; omega)
      have kc1 : kSh S1.1 := by rw [hE1.1]; exact kc
      have hvl := hv_le (fun r => spT_lt _ _ _ _ _ _ r : ∀ r, cT a w q r < 5) (aR a) (aR a - (m + 1)) (by omega)
      have hp4 : 5 ^ (aR a - (m + 1)) ≤ 625 := Nat.le_trans (Nat.pow_le_pow_right (by decide) (show aR a - (m + 1) ≤ 4 by omega)) (by decide)
      have hv1 : hv (cT a w q) (aR a) (aR a - m) = hv (cT a w q) (aR a) (aR a - (m + 1)) * 5 + cT a w q m := by
        rw [show aR a - m = (aR a - (m + 1)) + 1 by omega]
        show _ * 5 + cT a w q (aR a - 1 - (aR a - (m + 1))) = _
        rw [show aR a - 1 - (aR a - (m + 1)) = m by omega]
      have ht5 : cT a w q m < 5 := spT_lt _ _ _ _ _ _ m
      rw [show nI (m + 1) - nI 1 = nI m from pk_sub (by omega)]
      refine x_iload 125 7 (ab_dd tk_cl_behind 69 rfl) rfl rfl ?_
      refine xn_if_lt 128 148 (ab_dd tk_cl_behind 70 rfl) rfl (by decide) (by omega) ?_
      refine x_iload 130 6 (ab_dd tk_cl_behind 71 rfl) rfl rfl ?_
      refine x_iconst 131 5 (ab_dd tk_cl_behind 72 rfl) rfl (by decide) (x_topn 5 rfl ?_)
      refine x_imul 132 (ab_dd tk_cl_behind 73 rfl) rfl (x_topn ((hv (cT a w q) (aR a) (aR a - (m + 1))) * 5) (pk_mul _ _) ?_)
      refine x_aload_n 133 0 (ab_dd tk_cl_behind 74 rfl) rfl rfl rfl ?_
      refine x_iload 135 7 (ab_dd tk_cl_behind 75 rfl) rfl rfl ?_
      refine x_iload_n 136 2 (ab_dd tk_cl_behind 76 rfl) rfl rfl rfl ?_
      refine t_callV 139 M_cl_warmthBehind 2 2 [_, _] (ab_dd tk_cl_behind 77 rfl) rfl (by first | decide | omega) K_cl_warmthBehind V_cl_warmthBehind.1 V_cl_warmthBehind.2 L_cl_90 rfl (Nat.le_of_ble_eq_true rfl) (by rcases hK1.1 with z | z <;> omega) (Nat.lt_of_le_of_lt (Nat.le_add_right x 9) hK1.2.1) hK1.2.2.1 rfl (c_cl_warmthBehind (by exact hK1) him (by exact hcl1) hx1 hse1 kc1 ha m w q (by omega) (by omega) hq hah) (fun v1 w1 h1 => ?_)
      obtain ⟨rfl, S2, rfl, hE2, hcl2⟩ := h1
      refine x_iadd 140 (ab_dd tk_cl_behind 78 rfl) rfl (x_topn (((hv (cT a w q) (aR a) (aR a - (m + 1))) * 5) + (cT a w q m)) (nI_add _ _) ?_)
      refine x_istore 142 [some (.ref x), some (.int (nI w)), some (.int (nI q)), some (.int (nI (q * (5 ^ aR a) + w))), some (.int (nI kp)), none, some (.int (nI (((hv (cT a w q) (aR a) (aR a - (m + 1))) * 5) + (cT a w q m)))), some (.int (nI m))] 6 (ab_dd tk_cl_behind 79 rfl) rfl (by decide) rfl ?_
      refine x_iincN 145 7 (-1) (fun y => [some (.ref x), some (.int (nI w)), some (.int (nI q)), some (.int (nI (q * (5 ^ aR a) + w))), some (.int (nI kp)), none, some (.int (nI (((hv (cT a w q) (aR a) (aR a - (m + 1))) * 5) + (cT a w q m)))), some (.int y)]) (ab_dd tk_cl_behind 80 rfl) rfl (by decide) rfl (by decide) (fun _ => rfl) (fun v1 ev1 => ?_)
      refine x_goto 123 (ab_dd tk_cl_behind 81 rfl) (by decide) ?_
      rw [ev1, m1s]
      have h := ih (by omega) S2 (hE1.tr (hE2.mono (fun y hy => by simp only [List.mem_cons, List.not_mem_nil, or_false] at hy ⊢; omega))) hcl2 (fun i hi => by rw [hE2.2.2.1 (x + 7) (by simp only [List.mem_cons, List.not_mem_nil, or_false, not_or]; omega)]; exact hah i hi)
      rw [hv1] at h
      exact h
  have lp1 : ∀ (kp : Nat), kp < 2 → (kp = 0 ∨ (kp = 1 ∧ (q * (5 ^ aR a) + w) < nb)) → ∀ (m k : Nat), k + m = aR a → ∀ S1 : ab_S, sEq [x + 7] S S1 → (∀ i, i < k → sI S1 (x + 7) i = nI (mWa w i)) → ab_Ex G 3 M_cl_behind 74 [some (.ref x), some (.int (nI w)), some (.int (nI q)), some (.int (nI (q * (5 ^ aR a) + w))), some (.int (nI kp)), some (.int (nI (w / 5 ^ k))), some (.int (nI k)), none] [] (sw S1) (fun v w' => v = some (.int (nI (cB a w q))) ∧ ∃ S', w' = sw S' ∧ sEq [x + 5, x + 7, x + 8, x + 9, bh] S S' ∧ clI S' im x c a bh nb st) := by
    intro kp hk2 hkp m
    induction m with
    | zero =>
      intro k hkm S1 hE1 hah
      have hkR : k = aR a := by omega
      rw [hkR] at hah ⊢
      have hK1 : clK S1 x := hK.eq hE1
      have hEw : sEq [x + 5, x + 7, x + 8, x + 9, bh] S S1 := hE1.mono (fun y hy => by rw [List.mem_singleton.mp hy]; exact List.Mem.tail _ (List.Mem.head _))
      have hcl1 : clI S1 im x c a bh nb st := hcl.eq hE1 (by simp only [List.mem_cons, List.not_mem_nil, or_false, not_or]; omega) (fun y hy => by rw [List.mem_singleton.mp hy]; exact hnim 7 (by decide)) (by simp only [List.mem_cons, List.not_mem_nil, or_false, not_or]; omega) (by simp only [List.mem_cons, List.not_mem_nil, or_false, not_or]; omega) (by simp only [List.mem_cons, List.not_mem_nil, or_false, not_or]; omega)
      have hcl1b := hcl1
      obtain ⟨⟨fk, fr, -⟩, f2, -⟩ := hcl1b
      refine x_forget 5 ?_
      refine x_iload 76 6 (ab_dd tk_cl_behind 43 rfl) rfl rfl ?_
      refine x_aload_n 77 0 (ab_dd tk_cl_behind 44 rfl) rfl rfl rfl ?_
      refine t_getP 80 c (ab_dd tk_cl_behind 45 rfl) rfl F_cl_12 (by rcases hK1.1 with z | z <;> omega) (Nat.lt_of_le_of_lt (Nat.le_add_right x 9) hK1.2.1) hK1.2.2.1 rfl f2 ?_
      refine t_getI 83 (ab_dd tk_cl_behind 46 rfl) rfl F_cl_60 fk.1 (Nat.lt_of_le_of_lt (Nat.le_add_right c 2) fk.2.1) fk.2.2.1 rfl (x_topn (aR a) fr ?_)
      refine x_icmp_ge_t 109 (ab_dd tk_cl_behind 47 rfl) (by decide) ((nI_leI (a := (aR a)) (b := (aR a)) (by omega) (by omega)).mpr (show (aR a) ≤ (aR a) by omega)) ?_
      refine x_iconst 110 0 (ab_dd tk_cl_behind 61 rfl) rfl (by decide) (x_topn 0 rfl ?_)
      refine x_istore 112 [some (.ref x), some (.int (nI w)), some (.int (nI q)), some (.int (nI (q * (5 ^ aR a) + w))), some (.int (nI kp)), none, some (.int (nI 0)), none] 6 (ab_dd tk_cl_behind 62 rfl) rfl (by decide) rfl ?_
      refine x_aload_n 113 0 (ab_dd tk_cl_behind 63 rfl) rfl rfl rfl ?_
      refine t_getP 116 c (ab_dd tk_cl_behind 64 rfl) rfl F_cl_12 (by rcases hK1.1 with z | z <;> omega) (Nat.lt_of_le_of_lt (Nat.le_add_right x 9) hK1.2.1) hK1.2.2.1 rfl f2 ?_
      refine t_getI 119 (ab_dd tk_cl_behind 65 rfl) rfl F_cl_60 fk.1 (Nat.lt_of_le_of_lt (Nat.le_add_right c 2) fk.2.1) fk.2.2.1 rfl (x_topn (aR a) fr ?_)
      refine x_iconst 120 1 (ab_dd tk_cl_behind 66 rfl) rfl (by decide) (x_topn 1 rfl ?_)
      refine x_isub 121 (ab_dd tk_cl_behind 67 rfl) rfl ?_
      refine x_topi (fun v1 ev1 => ?_)
      refine x_istore 123 [some (.ref x), some (.int (nI w)), some (.int (nI q)), some (.int (nI (q * (5 ^ aR a) + w))), some (.int (nI kp)), none, some (.int (nI 0)), some (.int v1)] 7 (ab_dd tk_cl_behind 68 rfl) rfl (by decide) rfl ?_
      rw [ev1]
      have h := lp2 kp hk2 hkp (aR a) (Nat.le_refl _) S1 hEw hcl1 hah
      rw [Nat.sub_self] at h
      exact h
    | succ m ih =>
      intro k hkm S1 hE1 hah
      have hK1 : clK S1 x := hK.eq hE1
      have f2 : sP S1 x 2 = some c := by rw [hE1.2.2.2.2.1]; exact a2
      have fr : sI S1 c 0 = nI (aR a) := by rw [hE1.2.2.1 c (by simp only [List.mem_cons, List.not_mem_nil, or_false, not_or]; omega)]; exact c1
      have fk : caK S1 im c := hk.im (imE.of hE1 (fun y hy => by rw [List.mem_singleton.mp hy]; exact hnim 7 (by decide))) (fun _ z => z)
      have hdv : w / 5 ^ k ≤ w := Nat.div_le_self _ _
      have hwa : w / 5 ^ k % 5 = mWa w k := (mWa_w (by omega)).symm
      refine x_iload 76 6 (ab_dd tk_cl_behind 43 rfl) rfl rfl ?_
      refine x_aload_n 77 0 (ab_dd tk_cl_behind 44 rfl) rfl rfl rfl ?_
      refine t_getP 80 c (ab_dd tk_cl_behind 45 rfl) rfl F_cl_12 (by rcases hK1.1 with z | z <;> omega) (Nat.lt_of_le_of_lt (Nat.le_add_right x 9) hK1.2.1) hK1.2.2.1 rfl f2 ?_
      refine t_getI 83 (ab_dd tk_cl_behind 46 rfl) rfl F_cl_60 fk.1 (Nat.lt_of_le_of_lt (Nat.le_add_right c 2) fk.2.1) fk.2.2.1 rfl (x_topn (aR a) fr ?_)
      refine x_icmp_ge_f 86 (ab_dd tk_cl_behind 47 rfl) rfl 109 (by decide) (fun z => absurd ((nI_leI (a := (aR a)) (b := k) (by omega) (by omega)).mp z) (show ¬ ((aR a) ≤ k) by omega)) ?_
      refine x_aload_n 87 0 (ab_dd tk_cl_behind 48 rfl) rfl rfl rfl ?_
      refine t_getP 90 (x + 7) (ab_dd tk_cl_behind 49 rfl) rfl F_cl_38 (by rcases hK1.1 with z | z <;> omega) (Nat.lt_of_le_of_lt (Nat.le_add_right x 9) hK1.2.1) hK1.2.2.1 rfl hK1.2.2.2.2.2.2.2.2.2.2.2.1 ?_
      refine x_iload 92 6 (ab_dd tk_cl_behind 50 rfl) rfl rfl ?_
      refine x_iload 94 5 (ab_dd tk_cl_behind 51 rfl) rfl rfl ?_
      refine x_iconst 95 5 (ab_dd tk_cl_behind 52 rfl) rfl (by decide) (x_topn 5 rfl ?_)
      refine x_irem 96 (ab_dd tk_cl_behind 53 rfl) rfl (by decide) (x_topn ((w / 5 ^ k) % 5) (pk_rem (by omega) (by omega) (by omega)) ?_)
      refine t_iast 97 k (ab_dd tk_cl_behind 54 rfl) rfl (by rcases hK1.1 with z | z <;> omega) (Nat.lt_of_le_of_lt (Nat.add_le_add_left (by decide) x) hK1.2.1) hK1.2.2.2.2.2.1 rfl (by omega) (by decide) ?_
      refine x_iload 99 5 (ab_dd tk_cl_behind 55 rfl) rfl rfl ?_
      refine x_iconst 100 5 (ab_dd tk_cl_behind 56 rfl) rfl (by decide) (x_topn 5 rfl ?_)
      refine x_idiv 101 (ab_dd tk_cl_behind 57 rfl) rfl (by decide) (x_topn ((w / 5 ^ k) / 5) (pk_div (by omega) (by omega) (by omega)) ?_)
      refine x_istore 103 [some (.ref x), some (.int (nI w)), some (.int (nI q)), some (.int (nI (q * (5 ^ aR a) + w))), some (.int (nI kp)), some (.int (nI ((w / 5 ^ k) / 5))), some (.int (nI k)), none] 5 (ab_dd tk_cl_behind 58 rfl) rfl (by decide) rfl ?_
      refine xn_iinc 106 6 (fun y => [some (.ref x), some (.int (nI w)), some (.int (nI q)), some (.int (nI (q * (5 ^ aR a) + w))), some (.int (nI kp)), some (.int (nI ((w / 5 ^ k) / 5))), some (.int y), none]) (k + 1) (ab_dd tk_cl_behind 59 rfl) rfl (by decide) rfl (fun _ => rfl) (iinc_p 1) ?_
      refine x_goto 74 (ab_dd tk_cl_behind 60 rfl) (by decide) ?_
      rw [show w / 5 ^ k / 5 = w / 5 ^ (k + 1) by rw [Nat.pow_succ, Nat.div_div_eq_div_mul]]
      exact ih (k + 1) (by omega) _ (hE1.pI (List.Mem.head _)) (fun i hi => by
        by_cases hik : i = k
        · rw [hik, ← hwa]; exact gI_s
        · rw [gI_k hik]; exact hah i (by omega))
  have rst : ∀ (kp : Nat), kp < 2 → (kp = 0 ∨ (kp = 1 ∧ (q * (5 ^ aR a) + w) < nb)) → ab_Ex G 3 M_cl_behind 68 [some (.ref x), some (.int (nI w)), some (.int (nI q)), some (.int (nI (q * (5 ^ aR a) + w))), some (.int (nI kp)), none, none, none] [] (sw S) (fun v w' => v = some (.int (nI (cB a w q))) ∧ ∃ S', w' = sw S' ∧ sEq [x + 5, x + 7, x + 8, x + 9, bh] S S' ∧ clI S' im x c a bh nb st) := by
    intro kp hk2 hkp
    refine x_iload_n 69 1 (ab_dd tk_cl_behind 39 rfl) rfl rfl rfl ?_
    refine x_istore 71 [some (.ref x), some (.int (nI w)), some (.int (nI q)), some (.int (nI (q * (5 ^ aR a) + w))), some (.int (nI kp)), some (.int (nI w)), none, none] 5 (ab_dd tk_cl_behind 40 rfl) rfl (by decide) rfl ?_
    refine x_iconst 72 0 (ab_dd tk_cl_behind 41 rfl) rfl (by decide) (x_topn 0 rfl ?_)
    refine x_istore 74 [some (.ref x), some (.int (nI w)), some (.int (nI q)), some (.int (nI (q * (5 ^ aR a) + w))), some (.int (nI kp)), some (.int (nI w)), some (.int (nI 0)), none] 6 (ab_dd tk_cl_behind 42 rfl) rfl (by decide) rfl ?_
    have h := lp1 kp hk2 hkp (aR a) 0 (by omega) S sEq.rf (fun i hi => absurd hi (Nat.not_lt_zero i))
    rw [Nat.pow_zero, Nat.div_one] at h
    exact h
  refine x_iload_n 1 2 (ab_dd tk_cl_behind 0 rfl) rfl rfl rfl ?_
  refine x_getsN 4 (ab_dd tk_cl_behind 1 rfl) rfl (List.mem_of_getElem? (i := 0) rfl) F_cl_57 ?_
  refine x_aload_n 5 0 (ab_dd tk_cl_behind 2 rfl) rfl rfl rfl ?_
  refine t_getP 8 c (ab_dd tk_cl_behind 3 rfl) rfl F_cl_12 (by rcases hK.1 with z | z <;> omega) (Nat.lt_of_le_of_lt (Nat.le_add_right x 9) hK.2.1) hK.2.2.1 rfl a2 ?_
  refine t_getI 11 (ab_dd tk_cl_behind 4 rfl) rfl F_cl_60 hk.1 (Nat.lt_of_le_of_lt (Nat.le_add_right c 2) hk.2.1) hk.2.2.1 rfl (x_topn (aR a) c1 ?_)
  refine t_ialdK 12 (aR a) (ab_dd tk_cl_behind 5 rfl) rfl (by decide) h50 (kc.2.1) rfl (by omega) (by decide) (x_topn (5 ^ aR a) (kPw_N (aR a) (by omega)) ?_)
  refine x_imul 13 (ab_dd tk_cl_behind 6 rfl) rfl (x_topn (q * (5 ^ aR a)) (pk_mul _ _) ?_)
  refine x_iload_n 14 1 (ab_dd tk_cl_behind 7 rfl) rfl rfl rfl ?_
  refine x_iadd 15 (ab_dd tk_cl_behind 8 rfl) rfl (x_topn ((q * (5 ^ aR a)) + w) (nI_add _ _) ?_)
  refine x_istore_n 16 [some (.ref x), some (.int (nI w)), some (.int (nI q)), some (.int (nI ((q * (5 ^ aR a)) + w))), none, none, none, none] 3 (ab_dd tk_cl_behind 9 rfl) rfl rfl (by decide) rfl ?_
  refine x_iload_n 17 3 (ab_dd tk_cl_behind 10 rfl) rfl rfl rfl ?_
  refine xn_if_lt 20 33 (ab_dd tk_cl_behind 11 rfl) rfl (by decide) (by omega) ?_
  refine x_iload_n 21 3 (ab_dd tk_cl_behind 12 rfl) rfl rfl rfl ?_
  refine x_aload_n 22 0 (ab_dd tk_cl_behind 13 rfl) rfl rfl rfl ?_
  refine t_getP 25 bh (ab_dd tk_cl_behind 14 rfl) rfl F_cl_28 (by rcases hK.1 with z | z <;> omega) (Nat.lt_of_le_of_lt (Nat.le_add_right x 9) hK.2.1) hK.2.2.1 rfl a7 ?_
  refine t_alen 26 0 (ab_dd tk_cl_behind 15 rfl) rfl a8.1 a8.2 rfl a9 ?_
  refine xn_icmp_ge 29 33 (ab_dd tk_cl_behind 16 rfl) rfl (by decide) (by omega) (by omega) (fun h26 => ?_) (fun h26 => ?_)
  · refine x_iconst 34 0 (ab_dd tk_cl_behind 19 rfl) rfl (by decide) (x_topn 0 rfl ?_)
    refine x_istore 36 [some (.ref x), some (.int (nI w)), some (.int (nI q)), some (.int (nI ((q * (5 ^ aR a)) + w))), some (.int (nI 0)), none, none, none] 4 (ab_dd tk_cl_behind 20 rfl) rfl (by decide) rfl ?_
    refine x_iload 38 4 (ab_dd tk_cl_behind 21 rfl) rfl rfl ?_
    refine x_if_eq_t 68 (ab_dd tk_cl_behind 22 rfl) (by decide) rfl ?_
    exact rst 0 (by decide) (Or.inl rfl)
  · refine x_iconst 30 1 (ab_dd tk_cl_behind 17 rfl) rfl (by decide) (x_topn 1 rfl ?_)
    refine x_goto 34 (ab_dd tk_cl_behind 18 rfl) (by decide) ?_
    refine x_istore 36 [some (.ref x), some (.int (nI w)), some (.int (nI q)), some (.int (nI ((q * (5 ^ aR a)) + w))), some (.int (nI 1)), none, none, none] 4 (ab_dd tk_cl_behind 20 rfl) rfl (by decide) rfl ?_
    refine x_iload 38 4 (ab_dd tk_cl_behind 21 rfl) rfl rfl ?_
    refine x_if_eq_f 41 (ab_dd tk_cl_behind 22 rfl) rfl 68 (by decide) (by decide) ?_
    obtain ⟨e, he1, he2, he3, he4⟩ := b1 (q * (5 ^ aR a) + w) h26
    refine x_aload_n 42 0 (ab_dd tk_cl_behind 23 rfl) rfl rfl rfl ?_
    refine t_getP 45 bh (ab_dd tk_cl_behind 24 rfl) rfl F_cl_28 (by rcases hK.1 with z | z <;> omega) (Nat.lt_of_le_of_lt (Nat.le_add_right x 9) hK.2.1) hK.2.2.1 rfl a7 ?_
    refine x_iload_n 46 3 (ab_dd tk_cl_behind 25 rfl) rfl rfl rfl ?_
    refine t_iald 47 ((q * (5 ^ aR a)) + w) (ab_dd tk_cl_behind 26 rfl) rfl a8.1 a8.2 a9 rfl (by omega) (by omega) (x_topn e he1 ?_)
    refine x_bipush 49 10 (ab_dd tk_cl_behind 27 rfl) rfl (by decide) (x_topn 10 rfl ?_)
    refine x_ishr 50 (ab_dd tk_cl_behind 28 rfl) rfl (x_topn (e / 1024) (pk_shrN he2 _ 10 (by decide)) ?_)
    refine x_aload_n 51 0 (ab_dd tk_cl_behind 29 rfl) rfl rfl rfl ?_
    refine t_getI 54 (ab_dd tk_cl_behind 30 rfl) rfl F_cl_25 (by rcases hK.1 with z | z <;> omega) (Nat.lt_of_le_of_lt (Nat.le_add_right x 9) hK.2.1) hK.2.2.1 rfl (x_topn st a5 ?_)
    refine xn_icmp_ne 57 68 (ab_dd tk_cl_behind 31 rfl) rfl (by decide) (by omega) (by omega) (fun h54 => ?_) (fun h54 => ?_)
    · exact rst 1 (by decide) (Or.inr ⟨rfl, h26⟩)
    · refine x_aload_n 58 0 (ab_dd tk_cl_behind 32 rfl) rfl rfl rfl ?_
      refine t_getP 61 bh (ab_dd tk_cl_behind 33 rfl) rfl F_cl_28 (by rcases hK.1 with z | z <;> omega) (Nat.lt_of_le_of_lt (Nat.le_add_right x 9) hK.2.1) hK.2.2.1 rfl a7 ?_
      refine x_iload_n 62 3 (ab_dd tk_cl_behind 34 rfl) rfl rfl rfl ?_
      refine t_iald 63 ((q * (5 ^ aR a)) + w) (ab_dd tk_cl_behind 35 rfl) rfl a8.1 a8.2 a9 rfl (by omega) (by omega) (x_topn e he1 ?_)
      refine x_sipush 66 1023 (ab_dd tk_cl_behind 36 rfl) rfl (by decide) (x_topn 1023 rfl ?_)
      refine x_iand 67 (ab_dd tk_cl_behind 37 rfl) rfl (x_topn (e % 1024) (nI_mask he2 10 (by decide)) ?_)
      exact x_iret (ab_dd tk_cl_behind 38 rfl) ⟨rI (congrArg nI ((he4 h54).trans (bK_pl a hw))), S, rfl, sEq.rf, hcl⟩
